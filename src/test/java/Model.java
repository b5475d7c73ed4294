import java.math.BigInteger;
import java.util.ArrayList;
import java.util.Arrays;
import java.util.LinkedHashMap;
import java.util.List;
import java.util.Map;
import java.util.TreeMap;
import java.util.TreeSet;
import java.util.function.ToLongFunction;
import java.util.regex.Matcher;
import java.util.regex.Pattern;

/** The document once more, slowly and with the whole Java library, to be held against LinkTree. */
final class Model {
    static final int BAD = -1, STATE = -2, FULL = -3, NONE = -4;

    static final class Node {
        int level, high = 100;
        Node right;
        boolean dead;
        int number;
        TreeSet<Integer> keys = new TreeSet<>();
        TreeMap<Integer, Node> entries = new TreeMap<>();

        int wide() {
            return level == 0 ? keys.size() : entries.size();
        }
    }

    static final class Client {
        int state, act, key;
        Node at;
        Integer answer;
        boolean sawIn, sawOut;
        int steps, rights;
        Map<Integer, Node> path = new TreeMap<>();
        int mid, postLevel;
        Node made, died;
    }

    static final class World {
        List<Node> nodes = new ArrayList<>();
        Node root;
        int room = 3;
        List<Client> clients = new ArrayList<>();

        World() {
            root = make(0);
            for (int i = 0; i < 3; i++) {
                clients.add(new Client());
            }
        }

        Node make(int level) {
            Node n = new Node();
            n.level = level;
            n.number = nodes.size();
            nodes.add(n);
            return n;
        }

        World copy() {
            World w = new World();
            w.nodes.clear();
            w.room = room;
            for (Node n : nodes) {
                w.make(n.level);
            }
            for (Node n : nodes) {
                Node m = w.nodes.get(n.number);
                m.high = n.high;
                m.dead = n.dead;
                m.right = w.twin(n.right);
                m.keys.addAll(n.keys);
                n.entries.forEach((k, v) -> m.entries.put(k, w.twin(v)));
            }
            w.root = w.twin(root);
            for (int i = 0; i < 3; i++) {
                Client a = clients.get(i);
                Client b = w.clients.get(i);
                b.state = a.state;
                b.act = a.act;
                b.key = a.key;
                b.at = w.twin(a.at);
                b.answer = a.answer;
                b.sawIn = a.sawIn;
                b.sawOut = a.sawOut;
                b.steps = a.steps;
                b.rights = a.rights;
                b.mid = a.mid;
                b.postLevel = a.postLevel;
                b.made = w.twin(a.made);
                b.died = w.twin(a.died);
                a.path.forEach((k, v) -> b.path.put(k, w.twin(v)));
            }
            return w;
        }

        Node twin(Node n) {
            return n == null ? null : nodes.get(n.number);
        }

        boolean there(int key) {
            return nodes.stream().anyMatch(n -> n.level == 0 && !n.dead && n.keys.contains(key));
        }

        int holder(Node n) {
            for (int i = 0; i < 3; i++) {
                Client c = clients.get(i);
                if ((c.state == 2 || c.state == 4) && c.at == n) {
                    return i;
                }
            }
            return NONE;
        }

        void begin(int i, int act, int key) {
            Client c = new Client();
            c.state = 1;
            c.act = act;
            c.key = key;
            c.at = root;
            clients.set(i, c);
            see(c);
        }

        void see(Client c) {
            if (there(c.key)) {
                c.sawIn = true;
            } else {
                c.sawOut = true;
            }
        }

        boolean may(int i) {
            return copy().step(i) != 0;
        }

        int step(int i) {
            Client me = clients.get(i);
            List<Client> watching = new ArrayList<>();
            for (Client c : clients) {
                if (c.state >= 1 && c.state <= 4) {
                    watching.add(c);
                }
            }
            int code = raw(me);
            if (code != 0) {
                me.steps++;
                if (code == 1) {
                    me.rights++;
                }
                watching.forEach(this::see);
            }
            return code;
        }

        int raw(Client me) {
            switch (me.state) {
                case 1: return down(me);
                case 2: return me.act == 1 ? put(me) : take(me);
                case 3: return posts(me);
                case 4: return me.died != null ? above(me, me.died) : aboveSplit(me);
                default: return 0;
            }
        }

        int down(Client me) {
            Node n = me.at;
            if (n.dead || me.key > n.high) {
                me.at = n.right;
                return 1;
            }
            if (n.level != 0) {
                me.path.put(n.level, n);
                me.at = n.entries.ceilingEntry(me.key).getValue();
                return 2;
            }
            if (me.act == 0) {
                me.answer = n.keys.contains(me.key) ? 1 : 0;
                me.state = 5;
                return 3;
            }
            if (holder(n) != NONE) {
                return 0;
            }
            me.state = 2;
            return 4;
        }

        int finish(Client me, int answer) {
            me.answer = answer;
            me.state = 5;
            return 3;
        }

        int put(Client me) {
            Node n = me.at;
            if (n.keys.contains(me.key)) {
                return finish(me, 0);
            }
            if (n.keys.size() < room) {
                n.keys.add(me.key);
                return finish(me, 1);
            }
            if (nodes.size() == 24) {
                return finish(me, FULL);
            }
            n.keys.add(me.key);
            me.answer = 1;
            Node fresh = make(0);
            List<Integer> all = new ArrayList<>(n.keys);
            int lesser = all.size() - all.size() / 2;
            n.keys = new TreeSet<>(all.subList(0, lesser));
            fresh.keys = new TreeSet<>(all.subList(lesser, all.size()));
            link(me, n, fresh, n.keys.last());
            return 5;
        }

        void link(Client me, Node n, Node fresh, int mid) {
            fresh.high = n.high;
            fresh.right = n.right;
            n.right = fresh;
            n.high = mid;
            me.mid = mid;
            me.made = fresh;
            me.died = null;
            me.postLevel = n.level + 1;
            me.at = me.path.getOrDefault(n.level + 1, root);
            me.state = 3;
        }

        int take(Client me) {
            Node n = me.at;
            if (!n.keys.remove(me.key)) {
                return finish(me, 0);
            }
            if (!n.keys.isEmpty() || n.right == null) {
                return finish(me, 1);
            }
            me.answer = 1;
            n.dead = true;
            me.mid = n.high;
            me.died = n;
            me.postLevel = 1;
            me.at = me.path.getOrDefault(1, root);
            me.state = 3;
            return 6;
        }

        int posts(Client me) {
            if (root.level < me.postLevel) {
                me.state = 5;
                if (me.died != null || nodes.size() == 24) {
                    return 3;
                }
                Node top = make(me.postLevel);
                top.entries.put(me.mid, root);
                top.entries.put(100, me.made);
                root = top;
                return 7;
            }
            if (me.at.level < me.postLevel) {
                me.at = root;
                return 9;
            }
            if (me.mid > me.at.high) {
                me.at = me.at.right;
                return 1;
            }
            if (me.at.level > me.postLevel) {
                me.at = me.at.entries.ceilingEntry(me.mid).getValue();
                return 2;
            }
            if (holder(me.at) != NONE) {
                return 0;
            }
            me.state = 4;
            return 4;
        }

        int aboveSplit(Client me) {
            Node n = me.at;
            Map.Entry<Integer, Node> next = n.entries.ceilingEntry(me.mid);
            if (next.getKey() == me.mid) {
                me.state = 5;
                return 3;
            }
            if (n.entries.size() + 1 > room && nodes.size() == 24) {
                me.state = 5;
                return 3;
            }
            int nextKey = next.getKey();
            Node child = next.getValue();
            n.entries.put(me.mid, child);
            n.entries.put(nextKey, me.made);
            if (n.entries.size() <= room) {
                me.state = 5;
                return 8;
            }
            Node fresh = make(n.level);
            List<Integer> all = new ArrayList<>(n.entries.keySet());
            int lesser = (all.size() + 1) / 2;
            for (int k : all.subList(lesser, all.size())) {
                fresh.entries.put(k, n.entries.remove(k));
            }
            link(me, n, fresh, n.entries.lastKey());
            return 5;
        }

        int above(Client me, Node died) {
            Node n = me.at;
            me.state = 5;
            Map.Entry<Integer, Node> e = n.entries.ceilingEntry(me.mid);
            if (e.getKey() == me.mid && e.getValue() == died && n.entries.lastKey() != me.mid) {
                n.entries.remove(me.mid);
                return 8;
            }
            return 3;
        }

        Integer toEnd(int act, int key) {
            begin(0, act, key);
            while (step(0) != 0) {
                // to its end
            }
            Integer answer = clients.get(0).answer;
            clients.set(0, new Client());
            return answer;
        }
    }

    /** One row: who stepped, where it ended, how likely it is (by its parts). */
    static final class Row {
        String who;
        World last;
        BigInteger by;
    }

    World now = new World();
    final World[] images = new World[2];
    final StringBuilder tape = new StringBuilder();
    final Object[] sheets = new Object[4];
    int fault, torn;

    int feed(int c) {
        if (c < 0 || c > 127) {
            return BAD;
        }
        if (tape.length() == 160) {
            return FULL;
        }
        tape.append((char) c);
        return tape.length();
    }

    int end(int n) {
        if (n < 0 || n > tape.length()) {
            return BAD;
        }
        int had = tape.length();
        tape.setLength(n);
        return had;
    }

    // ---- the text: a pattern for a TOKEN at a place, and a small machine over kinds

    private static final Pattern TOKEN = Pattern.compile(" *(?:([a-z]+)|([0-9]+)|(;)|($)|(?s:(.)))");

    int text() {
        String t = tape.toString();
        tape.setLength(0);
        List<int[]> acts = new ArrayList<>();
        Map<Integer, Integer> finds = new LinkedHashMap<>();
        int room = 0;
        int lines = 0;
        String line = "";
        int had = 0;
        int finder = -1;
        Matcher m = TOKEN.matcher(t);
        int from = 0;
        while (true) {
            if (!m.region(from, t.length()).lookingAt()) {
                throw new IllegalStateException("no token at " + from);
            }
            from = m.end();
            String name = m.group(1);
            String number = m.group(2);
            boolean stop = m.group(3) != null;
            int place = name != null ? m.start(1) : number != null ? m.start(2)
                : stop ? m.start(3) : m.group(4) != null ? t.length() : m.start(5);
            if (m.group(5) != null || number != null && number.length() > 2) {
                return refuse(1, place);
            }
            if (line.isEmpty()) {
                if (m.group(4) != null) {
                    break;
                }
                if (name == null || !Arrays.asList("room", "put", "take", "find").contains(name)) {
                    return refuse(2, place);
                }
                if (name.equals("room") && room != 0) {
                    return refuse(4, place);
                }
                line = name;
                had = 0;
                continue;
            }
            boolean many = line.equals("put") || line.equals("take");
            int least = line.equals("find") ? 2 : 1;
            if (stop && had >= least) {
                line = "";
                lines++;
                continue;
            }
            if (many && acts.size() == 40 && m.group(4) == null) {
                return refuse(5, place);
            }
            if (number == null || !many && had >= least) {
                return refuse(2, place);
            }
            int v = Integer.parseInt(number);
            if (line.equals("room") && (v < 2 || v > 4) || line.equals("find") && had == 0 && v > 2) {
                return refuse(3, place);
            }
            if (line.equals("find") && had == 0 && finds.containsKey(v)) {
                return refuse(4, place);
            }
            if (many) {
                acts.add(new int[] {line.equals("put") ? 1 : 2, v});
            } else if (line.equals("room")) {
                room = v;
            } else if (had == 0) {
                finder = v;
            } else {
                finds.put(finder, v);
            }
            had++;
        }
        fault = 0;
        now = new World();
        now.room = room == 0 ? 3 : room;
        acts.forEach(a -> now.toEnd(a[0], a[1]));
        finds.forEach((c, k) -> now.begin(c, 0, k));
        Arrays.fill(images, null);
        return lines;
    }

    private int refuse(int f, int place) {
        fault = f;
        return -10 - place;
    }

    int fault() {
        return fault;
    }

    int rule(int what) {
        switch (what) {
            case 0: return now.nodes.size();
            case 1: return now.root.number;
            case 2: return now.root.level;
            case 3: return now.room;
            case 4: return now.nodes.stream().filter(n -> n.level == 0 && !n.dead).mapToInt(n -> n.keys.size()).sum();
            case 5: return (int) now.nodes.stream().filter(n -> now.holder(n) != NONE).count();
            case 6: return (int) now.nodes.stream().filter(n -> n.dead).count();
            case 7: return (now.may(0) ? 1 : 0) + (now.may(1) ? 2 : 0) + (now.may(2) ? 4 : 0);
            default: return BAD;
        }
    }

    int node(int i, int what) {
        if (i < 0 || i >= now.nodes.size() || what < 0 || what > 5) {
            return BAD;
        }
        Node n = now.nodes.get(i);
        int[] all = {n.level, n.wide(), n.high, n.right == null ? NONE : n.right.number, now.holder(n), n.dead ? 1 : 0};
        return all[what];
    }

    int entry(int i, int j, int what) {
        if (i < 0 || i >= now.nodes.size() || what < 0 || what > 1) {
            return BAD;
        }
        Node n = now.nodes.get(i);
        if (j < 0 || j >= n.wide()) {
            return BAD;
        }
        if (n.level == 0) {
            return what == 1 ? NONE : new ArrayList<>(n.keys).get(j);
        }
        int key = new ArrayList<>(n.entries.keySet()).get(j);
        return what == 0 ? key : n.entries.get(key).number;
    }

    int client(int i, int what) {
        if (i < 0 || i > 2 || what < 0 || what > 7) {
            return BAD;
        }
        Client c = now.clients.get(i);
        if (what == 0) {
            return c.state;
        }
        if (c.state == 0) {
            return STATE;
        }
        int[] all = {0, c.act, c.key, c.at.number, c.answer == null ? NONE : c.answer,
            (c.sawIn ? 2 : 0) + (c.sawOut ? 1 : 0), c.steps, c.rights};
        return all[what];
    }

    int there(int key) {
        return key < 0 || key > 99 ? BAD : now.there(key) ? 1 : 0;
    }

    int begin(int c, int act, int key) {
        if (c < 0 || c > 2 || act < 0 || act > 2 || key < 0 || key > 99) {
            return BAD;
        }
        int was = now.clients.get(c).state;
        if (was >= 1 && was <= 4) {
            return STATE;
        }
        now.begin(c, act, key);
        return was;
    }

    int step(int c) {
        return c < 0 || c > 2 ? BAD : now.step(c);
    }

    int go(int c, int n) {
        if (c < 0 || c > 2 || n < 0 || n > 60) {
            return BAD;
        }
        int made = 0;
        for (int i = 0; i < n; i++) {
            if (now.step(c) == 0) {
                break;
            }
            made++;
        }
        return made;
    }

    int drop(int c) {
        if (c < 0 || c > 2) {
            return BAD;
        }
        Client who = now.clients.get(c);
        if (who.state != 5) {
            return STATE;
        }
        now.clients.set(c, new Client());
        return who.answer;
    }

    int room(int v) {
        if (v < 2 || v > 4) {
            return BAD;
        }
        if (now.nodes.stream().anyMatch(n -> n.wide() > v)) {
            return STATE;
        }
        int was = now.room;
        now.room = v;
        return was;
    }

    // ---- rows: all of them are listed, then asked

    private void list(World from, int n, String who, BigInteger by, List<Row> into) {
        List<Integer> may = new ArrayList<>();
        for (int c = 0; c < 3; c++) {
            if (from.may(c)) {
                may.add(c);
            }
        }
        if (who.length() == n || may.isEmpty()) {
            Row r = new Row();
            r.who = who;
            r.last = from;
            r.by = by;
            into.add(r);
            return;
        }
        for (int c : may) {
            World w = from.copy();
            w.step(c);
            list(w, n, who + c, by.multiply(BigInteger.valueOf(may.size())), into);
        }
    }

    private List<Row> all(int n) {
        List<Row> rows = new ArrayList<>();
        list(now, n, "", BigInteger.ONE, rows);
        return rows;
    }

    private static long rights(World w) {
        return w.clients.stream().filter(c -> c.state != 0).mapToLong(c -> c.rights).sum();
    }

    private static boolean lied(Client c) {
        return c.state == 5 && c.act == 0 && (c.answer == 1 && !c.sawIn || c.answer == 0 && !c.sawOut);
    }

    int rows(int n, int what) {
        if (n < 0 || n > 7 || what < 0 || what > 4) {
            return BAD;
        }
        List<Row> rows = all(n);
        ToLongFunction<Row> worth = r -> what == 2 ? r.last.nodes.size() : rights(r.last) - rights(now);
        switch (what) {
            case 0: return rows.size();
            case 1: return (int) rows.stream().filter(r -> r.last.clients.stream()
                .allMatch(c -> c.state == 0 || c.state == 5)).count();
            case 4: return (int) rows.stream().filter(r -> r.last.clients.stream().anyMatch(Model::lied)).count();
            default: return (int) rows.stream().mapToLong(worth).max().getAsLong();
        }
    }

    private List<Row> hits(int c, int n, int a) {
        List<Row> rows = all(n);
        rows.removeIf(r -> {
            Client who = r.last.clients.get(c);
            return who.state == 0 || who.answer == null || who.answer != a;
        });
        return rows;
    }

    private static boolean askable(int c, int n, int a) {
        return c >= 0 && c <= 2 && n >= 0 && n <= 7 && (a == 0 || a == 1);
    }

    int answers(int c, int n, int a) {
        return askable(c, n, a) ? hits(c, n, a).size() : BAD;
    }

    int first(int c, int n, int a) {
        if (!askable(c, n, a)) {
            return BAD;
        }
        return hits(c, n, a).stream().map(r -> r.who).sorted().findFirst().map(s -> Integer.parseInt("1" + s)).orElse(NONE);
    }

    long chance(int c, int n, int a, int what) {
        if (!askable(c, n, a) || what < 0 || what > 1) {
            return BAD;
        }
        BigInteger up = BigInteger.ZERO;
        BigInteger low = BigInteger.ONE;
        for (Row r : hits(c, n, a)) {
            up = up.multiply(r.by).add(low);
            low = low.multiply(r.by);
            BigInteger g = up.gcd(low);
            up = up.divide(g);
            low = low.divide(g);
        }
        return (what == 0 ? up : low).longValueExact();
    }

    int check() {
        for (Node n : now.nodes) {
            if (n.level == 0 && !n.dead && !n.keys.isEmpty() && n.keys.last() > n.high) {
                return 2;
            }
        }
        for (Node n : now.nodes) {
            if (!n.dead && n.right != null && n.high >= n.right.high) {
                return 3;
            }
        }
        for (Node n : now.nodes) {
            if (n.right != null && n.level != n.right.level) {
                return 4;
            }
        }
        for (int a = 0; a < 3; a++) {
            for (int b = 0; b < a; b++) {
                Client x = now.clients.get(a);
                Client y = now.clients.get(b);
                if (x.at == y.at && (x.state == 2 || x.state == 4) && (y.state == 2 || y.state == 4)) {
                    return 5;
                }
            }
        }
        for (int key = 0; key < 100; key++) {
            World w = now.copy();
            if (w.there(key)) {
                w.begin(0, 0, key);
                while (w.step(0) != 0) {
                    // to its end
                }
                if (w.clients.get(0).answer != 1) {
                    return 6;
                }
            }
        }
        return 0;
    }

    int leaf(int i) {
        if (i < 0) {
            return BAD;
        }
        TreeSet<Integer> first = new TreeSet<>();
        now.nodes.stream().filter(n -> n.level == 0).forEach(n -> first.add(n.number));
        now.nodes.stream().filter(n -> n.right != null).forEach(n -> first.remove(n.right.number));
        Node n = now.nodes.get(first.first());
        for (int j = 0; j < i && n != null; j++) {
            n = n.right;
        }
        return n == null ? NONE : n.number;
    }

    int keep(int k) {
        if (k < 0 || k > 1) {
            return BAD;
        }
        int was = images[k] == null ? 0 : 1;
        images[k] = now.copy();
        return was;
    }

    int back(int k) {
        if (k < 0 || k > 1) {
            return BAD;
        }
        if (images[k] == null) {
            return STATE;
        }
        now = images[k].copy();
        return now.nodes.size();
    }

    int sheet(int k, int lane, int n) {
        if (k < 0 || k > 3 || lane < 0 || lane > 2 || n > 40) {
            return BAD;
        }
        try {
            sheets[k] = lane == 0 ? new byte[n] : lane == 1 ? new short[n] : (Object) new int[n];
            return 1;
        } catch (NegativeArraySizeException e) {
            return -14;
        }
    }

    int lay(int k, int i, int v) {
        if (k < 0 || k > 3) {
            return BAD;
        }
        try {
            if (sheets[k] instanceof byte[] b) {
                b[i] = (byte) v;
            } else if (sheets[k] instanceof short[] s) {
                s[i] = (short) v;
            } else {
                ((int[]) sheets[k])[i] = v;
            }
            return 1;
        } catch (NullPointerException e) {
            return -11;
        } catch (ArrayIndexOutOfBoundsException e) {
            return -12;
        }
    }

    int read(int k, int lane, int f, int n) {
        if (k < 0 || k > 3 || lane < 0 || lane > 2 || n < 0 || n > 40) {
            return BAD;
        }
        if (now.clients.get(0).state != 0 || rule(5) > 0) {
            return STATE;
        }
        World ahead = now.copy();
        int came = 0;
        int found = 0;
        try {
            while (came < n) {
                int key = lane == 0 ? ((byte[]) sheets[k])[f + came]
                    : lane == 1 ? ((short[]) sheets[k])[f + came] : ((int[]) sheets[k])[f + came];
                if (key < 0 || key > 99 || now.toEnd(1, key) == FULL) {
                    now = ahead;
                    return -20 - came;
                }
                came++;
            }
        } catch (NullPointerException e) {
            found = 1;
        } catch (ArrayIndexOutOfBoundsException e) {
            found = 2;
        } catch (ClassCastException e) {
            found = 3;
        }
        torn = found;
        return came;
    }

    int torn() {
        return torn;
    }

    int count(int what) {
        switch (what) {
            case 0: return (int) now.nodes.stream().filter(n -> n.level == 0).count();
            case 1: return (images[0] == null ? 0 : 1) + (images[1] == null ? 0 : 1);
            case 2: return tape.length();
            case 3: return sheets[0] == null ? NONE : java.lang.reflect.Array.getLength(sheets[0]);
            case 4: return java.util.stream.IntStream.range(0, 100).filter(now::there).sum();
            case 5: return now.nodes.stream().mapToInt(n -> n.entries.size()).sum();
            default: return BAD;
        }
    }
}
