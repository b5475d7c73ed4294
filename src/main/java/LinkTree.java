import java.util.Arrays;

/** A search tree with high keys and right links that three clients step through; ../shared/DOC.md tells its promises. */
public final class LinkTree {
    public static final int BAD = -1, STATE = -2, FULL = -3, NONE = -4;

    private static final int MOST_NODES = 24;
    private static final int KEY_BOUND = 100;
    private static final int TOP = 100;
    private static final int FIRST_ROOM = 3, LEAST_ROOM = 2, MOST_ROOM = 4;
    /** A split begins with one KEY, ENTRY more than ROOM. */
    private static final int WIDE = MOST_ROOM + 1;

    private static final int CLIENTS = 3;
    private static final int IDLE = 0, DOWN = 1, HOLDS = 2, POSTS = 3, HOLDS_ABOVE = 4, DONE = 5;
    private static final int FIND = 0, PUT = 1, TAKE = 2;
    private static final int SEEN_AWAY = 1, SEEN_THERE = 2;

    private static final int NOTHING = 0, TO_RIGHT = 1, TO_CHILD = 2, ENDS = 3, LOCKS = 4, PARTS = 5;
    private static final int DIES = 6, NEW_ROOT = 7, POSTED = 8, TO_ROOT = 9;

    /** Far above the STEPS that one CLIENT needs to its end among 24 NODES. */
    private static final int LONG_WAY = 1000;
    private static final int MOST_GO = 60;
    private static final int MOST_ROW = 7;
    /** 6 to the 7th: each of 7 choices among 1, 2 or 3 CLIENTS parts it without a rest. */
    private static final long WHOLE = 279936L;

    private static final int IMAGES = 2;
    private static final int TAPE_BYTES = 160;
    private static final int TEXT_KEYS = 40;
    private static final int SHEETS = 4, LANES = 3, CELLS = 40;
    private static final int NULL_FAULT = 1, INDEX_FAULT = 2, CAST_FAULT = 3, SIZE_FAULT = 4;

    private final World now = new World();
    /** What stood ahead of a read() that may be refused halfway. */
    private final World spare = new World();
    private final World[] images = {new World(), new World()};
    private final boolean[] kept = new boolean[IMAGES];
    private final Walk walk = new Walk();
    private final Tape tape = new Tape();
    private final Script script = new Script();
    private final Sheets sheets = new Sheets();
    private int tornBy = 0;

    public LinkTree() {
    }

    // ---- the text

    public int feed(int c) {
        if (c < 0 || c > 127) {
            return BAD;
        }
        return tape.append(c) ? tape.length : FULL;
    }

    public int end(int n) {
        if (n < 0 || n > tape.length) {
            return BAD;
        }
        int had = tape.length;
        tape.length = n;
        return had;
    }

    public int text() {
        script.parse(tape);
        tape.length = 0;
        if (script.wrong != 0) {
            return -10 - script.place;
        }
        now.perform(script);
        kept[0] = false;
        kept[1] = false;
        return script.lines;
    }

    public int fault() {
        return script.wrong;
    }

    public int rule(int what) {
        switch (what) {
            case 0: return now.tree.nodes;
            case 1: return now.tree.root;
            case 2: return now.tree.levelOf(now.tree.root);
            case 3: return now.tree.space;
            case 4: return now.tree.liveKeys();
            case 5: return now.lockedNodes();
            case 6: return now.tree.deadNodes();
            case 7: return now.movers();
            default: return BAD;
        }
    }

    public int node(int n, int what) {
        Tree tree = now.tree;
        if (!tree.has(n)) {
            return BAD;
        }
        switch (what) {
            case 0: return tree.level[n];
            case 1: return tree.size[n];
            case 2: return tree.high[n];
            case 3: return tree.right[n];
            case 4: return now.holderOf(n);
            case 5: return tree.dead[n] ? 1 : 0;
            default: return BAD;
        }
    }

    public int entry(int n, int i, int what) {
        Tree tree = now.tree;
        if (!tree.has(n) || i < 0 || i >= tree.size[n] || what < 0 || what > 1) {
            return BAD;
        }
        return what == 0 ? tree.keyOf(n, i) : tree.childOf(n, i);
    }

    public int client(int c, int what) {
        if (!isClient(c) || what < 0 || what > 7) {
            return BAD;
        }
        Client who = now.clients[c];
        if (what == 0) {
            return who.state;
        }
        return who.state == IDLE ? STATE : who.told(what);
    }

    public int there(int key) {
        if (!isKey(key)) {
            return BAD;
        }
        return now.tree.isThere(key) ? 1 : 0;
    }

    // ---- steps

    public int begin(int c, int act, int key) {
        if (!isClient(c) || act < FIND || act > TAKE || !isKey(key)) {
            return BAD;
        }
        int was = now.clients[c].state;
        if (was != IDLE && was != DONE) {
            return STATE;
        }
        now.start(c, act, key);
        return was;
    }

    public int step(int c) {
        return isClient(c) ? now.advance(c) : BAD;
    }

    public int go(int c, int n) {
        if (!isClient(c) || n < 0 || n > MOST_GO) {
            return BAD;
        }
        return now.advanceUpTo(c, n);
    }

    public int drop(int c) {
        if (!isClient(c)) {
            return BAD;
        }
        Client who = now.clients[c];
        if (who.state != DONE) {
            return STATE;
        }
        who.state = IDLE;
        return who.answer;
    }

    public int room(int v) {
        if (v < LEAST_ROOM || v > MOST_ROOM) {
            return BAD;
        }
        if (now.tree.widest() > v) {
            return STATE;
        }
        int was = now.tree.space;
        now.tree.space = v;
        return was;
    }

    // ---- all rows of steps

    public int rows(int n, int what) {
        if (!isRow(n) || what < 0 || what > 4) {
            return BAD;
        }
        walk.survey(now, n, NONE, NONE);
        switch (what) {
            case 0: return walk.total;
            case 1: return walk.allDone;
            case 2: return walk.mostNodes;
            case 3: return walk.mostRights;
            default: return walk.untrue;
        }
    }

    public int answers(int c, int n, int a) {
        if (!isClient(c) || !isRow(n) || !isTruth(a)) {
            return BAD;
        }
        walk.survey(now, n, c, a);
        return walk.hits;
    }

    public int first(int c, int n, int a) {
        if (!isClient(c) || !isRow(n) || !isTruth(a)) {
            return BAD;
        }
        walk.survey(now, n, c, a);
        return walk.firstHit;
    }

    public long chance(int c, int n, int a, int what) {
        if (!isClient(c) || !isRow(n) || !isTruth(a) || !isTruth(what)) {
            return BAD;
        }
        walk.survey(now, n, c, a);
        long common = greatestDivisor(walk.share, WHOLE);
        if (common <= 0) {
            return BAD;
        }
        return (what == 0 ? walk.share : WHOLE) / common;
    }

    // ---- what holds

    public int check() {
        Tree tree = now.tree;
        if (!tree.keysRise()) {
            return 1;
        }
        if (!tree.keysBelowHighs()) {
            return 2;
        }
        if (!tree.highsRise()) {
            return 3;
        }
        if (!tree.rightsKeepLevel()) {
            return 4;
        }
        if (now.twoHoldOne()) {
            return 5;
        }
        return tree.allKeysReached() ? 0 : 6;
    }

    public int leaf(int i) {
        return i < 0 ? BAD : now.tree.leafAt(i);
    }

    // ---- images, sheets

    public int keep(int k) {
        if (!isImage(k)) {
            return BAD;
        }
        int was = kept[k] ? 1 : 0;
        images[k].copyFrom(now);
        kept[k] = true;
        return was;
    }

    public int back(int k) {
        if (!isImage(k)) {
            return BAD;
        }
        if (!kept[k]) {
            return STATE;
        }
        now.copyFrom(images[k]);
        return now.tree.nodes;
    }

    public int sheet(int k, int lane, int n) {
        if (!isSheet(k) || !isLane(lane) || n > CELLS) {
            return BAD;
        }
        if (n < 0) {
            return -10 - SIZE_FAULT;
        }
        sheets.renew(k, lane, n);
        return 1;
    }

    public int lay(int k, int i, int v) {
        if (!isSheet(k)) {
            return BAD;
        }
        int refused = sheets.faultAt(k, sheets.lane[k], i);
        if (refused != 0) {
            return -10 - refused;
        }
        sheets.write(k, i, v);
        return 1;
    }

    public int read(int k, int lane, int f, int n) {
        if (!isSheet(k) || !isLane(lane) || n < 0 || n > CELLS) {
            return BAD;
        }
        if (now.clients[0].state != IDLE || now.lockedNodes() > 0) {
            return STATE;
        }
        spare.copyFrom(now);
        for (int i = 0; i < n; i++) {
            int refused = sheets.faultAt(k, lane, f + i);
            if (refused != 0) {
                tornBy = refused;
                return i;
            }
            if (!putCell(sheets.cellAt(k, f + i))) {
                now.copyFrom(spare);
                return -20 - i;
            }
        }
        tornBy = 0;
        return n;
    }

    public int torn() {
        return tornBy;
    }

    public int count(int what) {
        switch (what) {
            case 0: return now.tree.leaves();
            case 1: return (kept[0] ? 1 : 0) + (kept[1] ? 1 : 0);
            case 2: return tape.length;
            case 3: return sheets.length[0];
            case 4: return now.tree.sumThere();
            case 5: return now.tree.entriesAbove();
            default: return BAD;
        }
    }

    // ---- helpers

    /** Whether a number of a SHEET is a KEY and CLIENT 0 could PUT it. */
    private boolean putCell(int key) {
        return isKey(key) && now.carryOut(PUT, key) != FULL;
    }

    private static boolean isClient(int c) {
        return c >= 0 && c < CLIENTS;
    }

    private static boolean isKey(int key) {
        return key >= 0 && key < KEY_BOUND;
    }

    private static boolean isRow(int n) {
        return n >= 0 && n <= MOST_ROW;
    }

    private static boolean isTruth(int a) {
        return a == 0 || a == 1;
    }

    private static boolean isImage(int k) {
        return k >= 0 && k < IMAGES;
    }

    private static boolean isSheet(int k) {
        return k >= 0 && k < SHEETS;
    }

    private static boolean isLane(int lane) {
        return lane >= 0 && lane < LANES;
    }

    private static long greatestDivisor(long a, long b) {
        long x = a;
        long y = b;
        for (int i = 0; i < 100 && y != 0; i++) {
            long rest = x % y;
            x = y;
            y = rest;
        }
        return x;
    }

    /** The NODES; KEY and CHILD i of NODE n stand at n * WIDE + i. */
    private static final class Tree {
        int nodes, root, space;
        final int[] level = new int[MOST_NODES];
        final int[] size = new int[MOST_NODES];
        final int[] high = new int[MOST_NODES];
        final int[] right = new int[MOST_NODES];
        final boolean[] dead = new boolean[MOST_NODES];
        final int[] keys = new int[MOST_NODES * WIDE];
        final int[] children = new int[MOST_NODES * WIDE];

        Tree() {
            clear();
        }

        void clear() {
            nodes = 0;
            root = added(0);
            space = FIRST_ROOM;
        }

        void copyFrom(Tree other) {
            nodes = other.nodes;
            root = other.root;
            space = other.space;
            System.arraycopy(other.level, 0, level, 0, MOST_NODES);
            System.arraycopy(other.size, 0, size, 0, MOST_NODES);
            System.arraycopy(other.high, 0, high, 0, MOST_NODES);
            System.arraycopy(other.right, 0, right, 0, MOST_NODES);
            System.arraycopy(other.dead, 0, dead, 0, MOST_NODES);
            System.arraycopy(other.keys, 0, keys, 0, MOST_NODES * WIDE);
            System.arraycopy(other.children, 0, children, 0, MOST_NODES * WIDE);
        }

        boolean isFull() {
            return nodes >= MOST_NODES;
        }

        /** A new empty NODE, HIGH 100, no RIGHT; NONE: there are 24. */
        int added(int itsLevel) {
            if (nodes < 0 || nodes >= MOST_NODES) {
                return NONE;
            }
            int n = nodes;
            nodes++;
            level[n] = itsLevel;
            size[n] = 0;
            high[n] = TOP;
            right[n] = NONE;
            dead[n] = false;
            return n;
        }

        boolean has(int n) {
            return n >= 0 && n < nodes;
        }

        int levelOf(int n) {
            return has(n) ? level[n] : NONE;
        }

        int highOf(int n) {
            return has(n) ? high[n] : TOP;
        }

        int rightOf(int n) {
            return has(n) ? right[n] : NONE;
        }

        boolean isDead(int n) {
            return has(n) && dead[n];
        }

        boolean isRoomy(int n) {
            return has(n) && size[n] < space;
        }

        int keyOf(int n, int i) {
            return has(n) && i >= 0 && i < size[n] ? keys[n * WIDE + i] : NONE;
        }

        int childOf(int n, int i) {
            return has(n) && level[n] > 0 && i >= 0 && i < size[n] ? children[n * WIDE + i] : NONE;
        }

        /** The first place in a NODE whose KEY is no less, or how many it has. */
        int placeOf(int n, int key) {
            if (!has(n)) {
                return 0;
            }
            int i = 0;
            while (i < size[n] && keys[n * WIDE + i] < key) {
                i++;
            }
            return i;
        }

        boolean contains(int n, int key) {
            return keyOf(n, placeOf(n, key)) == key;
        }

        void insert(int n, int i, int key, int child) {
            if (!has(n) || size[n] >= WIDE || i < 0 || i > size[n]) {
                return;
            }
            int at = n * WIDE + i;
            for (int j = n * WIDE + size[n]; j > at; j--) {
                keys[j] = keys[j - 1];
                children[j] = children[j - 1];
            }
            keys[at] = key;
            children[at] = child;
            size[n]++;
        }

        void remove(int n, int i) {
            if (!has(n) || i < 0 || i >= size[n]) {
                return;
            }
            for (int j = n * WIDE + i; j < n * WIDE + size[n] - 1; j++) {
                keys[j] = keys[j + 1];
                children[j] = children[j + 1];
            }
            size[n]--;
        }

        void setChild(int n, int i, int child) {
            if (has(n) && i >= 0 && i < size[n]) {
                children[n * WIDE + i] = child;
            }
        }

        /** SPLITS a NODE: the new one, which has the greater half, or NONE. */
        int split(int n) {
            if (!has(n) || size[n] < 2) {
                return NONE;
            }
            int made = added(level[n]);
            if (made < 0) {
                return NONE;
            }
            int stays = (size[n] + 1) / 2;
            int goes = size[n] - stays;
            System.arraycopy(keys, n * WIDE + stays, keys, made * WIDE, goes);
            System.arraycopy(children, n * WIDE + stays, children, made * WIDE, goes);
            size[made] = goes;
            size[n] = stays;
            high[made] = high[n];
            high[n] = keys[n * WIDE + stays - 1];
            right[made] = right[n];
            right[n] = made;
            return made;
        }

        boolean isLive(int n) {
            return has(n) && level[n] == 0 && !dead[n];
        }

        boolean isThere(int key) {
            for (int n = 0; n < nodes && n < MOST_NODES; n++) {
                if (level[n] > 0 || dead[n]) {
                    continue;
                }
                for (int i = 0; i < size[n] && i < WIDE; i++) {
                    if (keys[n * WIDE + i] == key) {
                        return true;
                    }
                }
            }
            return false;
        }

        int sumThere() {
            int sum = 0;
            for (int key = 0; key < KEY_BOUND; key++) {
                if (isThere(key)) {
                    sum += key;
                }
            }
            return sum;
        }

        int liveKeys() {
            int sum = 0;
            for (int n = 0; n < nodes && n < MOST_NODES; n++) {
                if (isLive(n)) {
                    sum += size[n];
                }
            }
            return sum;
        }

        int deadNodes() {
            int sum = 0;
            for (int n = 0; n < nodes; n++) {
                if (isDead(n)) {
                    sum++;
                }
            }
            return sum;
        }

        int leaves() {
            int sum = 0;
            for (int n = 0; n < nodes; n++) {
                if (levelOf(n) == 0) {
                    sum++;
                }
            }
            return sum;
        }

        int entriesAbove() {
            int sum = 0;
            for (int n = 0; n < nodes && n < MOST_NODES; n++) {
                if (level[n] > 0) {
                    sum += size[n];
                }
            }
            return sum;
        }

        int widest() {
            int most = 0;
            for (int n = 0; n < nodes && n < MOST_NODES; n++) {
                most = Math.max(most, size[n]);
            }
            return most;
        }

        /** NODE 0 is the leftmost LEAF for ever, as a split makes a NODE to the right. */
        int leafAt(int i) {
            if (i >= MOST_NODES) {
                return NONE;
            }
            int n = 0;
            for (int j = 0; j < i && n >= 0; j++) {
                n = rightOf(n);
            }
            return n;
        }

        boolean keysRise() {
            for (int n = 0; n < nodes && n < MOST_NODES; n++) {
                for (int i = 1; i < size[n]; i++) {
                    if (keyOf(n, i - 1) >= keyOf(n, i)) {
                        return false;
                    }
                }
            }
            return true;
        }

        boolean keysBelowHighs() {
            for (int n = 0; n < nodes && n < MOST_NODES; n++) {
                if (isLive(n) && size[n] > 0 && keyOf(n, size[n] - 1) > high[n]) {
                    return false;
                }
            }
            return true;
        }

        boolean highsRise() {
            for (int n = 0; n < nodes; n++) {
                int next = rightOf(n);
                if (next >= 0 && !isDead(n) && highOf(n) >= highOf(next)) {
                    return false;
                }
            }
            return true;
        }

        boolean rightsKeepLevel() {
            for (int n = 0; n < nodes; n++) {
                int next = rightOf(n);
                if (next >= 0 && levelOf(n) != levelOf(next)) {
                    return false;
                }
            }
            return true;
        }

        boolean allKeysReached() {
            for (int key = 0; key < KEY_BOUND; key++) {
                if (isThere(key) && !isReached(key)) {
                    return false;
                }
            }
            return true;
        }

        /** No NODE is met twice on a way down and to the right, so 24 moves end it. */
        private boolean isReached(int key) {
            int n = root;
            for (int i = 0; i <= MOST_NODES; i++) {
                if (isDead(n) || key > highOf(n)) {
                    n = rightOf(n);
                } else if (levelOf(n) > 0) {
                    n = childOf(n, placeOf(n, key));
                } else {
                    return contains(n, key);
                }
            }
            return false;
        }
    }

    private static final class Client {
        int state, act, key, at, answer, seen, steps, rights;
        /** What is to POST: MID, to which LEVEL, and the NODE that is new by the split, or dead. */
        int mid, above, subject;
        boolean ofDead;
        final int[] path = new int[MOST_NODES];

        Client() {
            forget();
        }

        private void forget() {
            state = IDLE;
            answer = NONE;
            Arrays.fill(path, NONE);
        }

        void startAt(int itsAct, int itsKey, int root) {
            forget();
            state = DOWN;
            act = itsAct;
            key = itsKey;
            at = root;
            seen = 0;
            steps = 0;
            rights = 0;
        }

        void copyFrom(Client other) {
            state = other.state;
            act = other.act;
            key = other.key;
            at = other.at;
            answer = other.answer;
            seen = other.seen;
            steps = other.steps;
            rights = other.rights;
            mid = other.mid;
            above = other.above;
            subject = other.subject;
            ofDead = other.ofDead;
            System.arraycopy(other.path, 0, path, 0, MOST_NODES);
        }

        boolean isUnderWay() {
            return state != IDLE && state != DONE;
        }

        boolean isHolding(int n) {
            return (state == HOLDS || state == HOLDS_ABOVE) && at == n;
        }

        int ends(int itsAnswer) {
            answer = itsAnswer;
            state = DONE;
            return ENDS;
        }

        /** DONE with the ANSWER that was there already. */
        int endsBy(int code) {
            state = DONE;
            return code;
        }

        int pathAt(int level) {
            return level >= 0 && level < MOST_NODES ? path[level] : NONE;
        }

        void recall(int level, int n) {
            if (level >= 0 && level < MOST_NODES) {
                path[level] = n;
            }
        }

        /** An ANSWER of FIND that was true at no moment since it began. */
        boolean isUntrue() {
            if (state != DONE || act != FIND) {
                return false;
            }
            return answer == 0 && (seen & SEEN_AWAY) == 0 || answer == 1 && (seen & SEEN_THERE) == 0;
        }

        int told(int what) {
            switch (what) {
                case 1: return act;
                case 2: return key;
                case 3: return at;
                case 4: return answer;
                case 5: return seen;
                case 6: return steps;
                case 7: return rights;
                default: return BAD;
            }
        }
    }

    /** All that an IMAGE has, and the STEPS in it. */
    private static final class World {
        final Tree tree = new Tree();
        final Client[] clients = {new Client(), new Client(), new Client()};

        void copyFrom(World other) {
            tree.copyFrom(other.tree);
            for (int c = 0; c < CLIENTS; c++) {
                clients[c].copyFrom(other.clients[c]);
            }
        }

        void perform(Script script) {
            tree.clear();
            for (int c = 0; c < CLIENTS; c++) {
                clients[c].state = IDLE;
            }
            tree.space = script.space;
            for (int i = 0; i < script.many && i < TEXT_KEYS; i++) {
                carryOut(script.acts[i], script.keys[i]);
            }
            for (int c = 0; c < CLIENTS; c++) {
                if (script.finds[c] >= 0) {
                    start(c, FIND, script.finds[c]);
                }
            }
        }

        void start(int c, int act, int key) {
            Client me = clients[c];
            me.startAt(act, key, tree.root);
            notice(me);
        }

        /** An ACT of CLIENT 0 to its end, IDLE behind it: its ANSWER. */
        int carryOut(int act, int key) {
            start(0, act, key);
            int code = LOCKS;
            for (int i = 0; i < LONG_WAY && code != NOTHING; i++) {
                code = advance(0);
            }
            clients[0].state = IDLE;
            return clients[0].answer;
        }

        int advanceUpTo(int c, int n) {
            int made = 0;
            while (made < n && advance(c) != NOTHING) {
                made++;
            }
            return made;
        }

        /** A STEP of a CLIENT: its CODE. */
        int advance(int c) {
            if (!mayMove(c)) {
                return NOTHING;
            }
            Client me = clients[c];
            boolean held = me.state == HOLDS;
            int code;
            switch (me.state) {
                case DOWN: code = goDown(me); break;
                case HOLDS: code = me.act == PUT ? fill(me) : empty(me); break;
                case POSTS: code = goPost(me); break;
                default: code = me.ofDead ? postDead(me) : postSplit(me); break;
            }
            if (code != NOTHING) {
                me.steps++;
            }
            if (code == TO_RIGHT) {
                me.rights++;
            }
            if (held) {
                noticeAll(c);
            }
            return code;
        }

        /** Only a STEP that HOLDS a LEAF changes which KEYS are there, so no other one shows anything new. */
        private void noticeAll(int mover) {
            for (int c = 0; c < CLIENTS; c++) {
                if (clients[c].isUnderWay() || c == mover) {
                    notice(clients[c]);
                }
            }
        }

        private void notice(Client who) {
            who.seen |= tree.isThere(who.key) ? SEEN_THERE : SEEN_AWAY;
        }

        private int goRight(Client me) {
            int next = tree.rightOf(me.at);
            if (next < 0) {
                return NOTHING;
            }
            me.at = next;
            return TO_RIGHT;
        }

        private int goToChild(Client me, int key) {
            int next = tree.childOf(me.at, tree.placeOf(me.at, key));
            if (next < 0) {
                return NOTHING;
            }
            me.at = next;
            return TO_CHILD;
        }

        private int goDown(Client me) {
            if (tree.isDead(me.at) || me.key > tree.highOf(me.at)) {
                return goRight(me);
            }
            int level = tree.levelOf(me.at);
            if (level > 0) {
                me.recall(level, me.at);
                return goToChild(me, me.key);
            }
            if (me.act == FIND) {
                return me.ends(tree.contains(me.at, me.key) ? 1 : 0);
            }
            me.state = HOLDS;
            return LOCKS;
        }

        private int fill(Client me) {
            if (tree.contains(me.at, me.key)) {
                return me.ends(0);
            }
            boolean fits = tree.isRoomy(me.at);
            if (!fits && tree.isFull()) {
                return me.ends(FULL);
            }
            tree.insert(me.at, tree.placeOf(me.at, me.key), me.key, NONE);
            return fits ? me.ends(1) : part(me, 1);
        }

        /** SPLITS the NODE that it HOLDS, which has one more than ROOM. */
        private int part(Client me, int answer) {
            me.subject = tree.split(me.at);
            me.ofDead = false;
            me.mid = tree.highOf(me.at);
            rise(me, tree.levelOf(me.at) + 1, answer);
            return PARTS;
        }

        /** To the LEVEL above a NODE that was split, or is dead, to POST there. */
        private void rise(Client me, int level, int answer) {
            me.answer = answer;
            me.above = level;
            int known = me.pathAt(level);
            me.at = known >= 0 ? known : tree.root;
            me.state = POSTS;
        }

        private int empty(Client me) {
            if (!tree.contains(me.at, me.key)) {
                return me.ends(0);
            }
            tree.remove(me.at, tree.placeOf(me.at, me.key));
            if (!tree.has(me.at) || tree.size[me.at] > 0 || tree.right[me.at] < 0) {
                return me.ends(1);
            }
            tree.dead[me.at] = true;
            me.subject = me.at;
            me.ofDead = true;
            me.mid = tree.highOf(me.at);
            rise(me, 1, 1);
            return DIES;
        }

        private int goPost(Client me) {
            if (tree.levelOf(tree.root) < me.above) {
                return me.ofDead || tree.isFull() ? me.endsBy(ENDS) : raiseRoot(me);
            }
            int level = tree.levelOf(me.at);
            if (level < me.above) {
                me.at = tree.root;
                return TO_ROOT;
            }
            if (me.mid > tree.highOf(me.at)) {
                return goRight(me);
            }
            if (level > me.above) {
                return goToChild(me, me.mid);
            }
            me.state = HOLDS_ABOVE;
            return LOCKS;
        }

        private int raiseRoot(Client me) {
            int made = tree.added(me.above);
            tree.insert(made, 0, me.mid, tree.root);
            tree.insert(made, 1, TOP, me.subject);
            tree.root = made;
            return me.endsBy(NEW_ROOT);
        }

        private int postSplit(Client me) {
            int place = tree.placeOf(me.at, me.mid);
            if (tree.keyOf(me.at, place) == me.mid) {
                return me.endsBy(ENDS);
            }
            boolean fits = tree.isRoomy(me.at);
            if (!fits && tree.isFull()) {
                return me.endsBy(ENDS);
            }
            tree.insert(me.at, place, me.mid, tree.childOf(me.at, place));
            tree.setChild(me.at, place + 1, me.subject);
            return fits ? me.endsBy(POSTED) : part(me, me.answer);
        }

        private int postDead(Client me) {
            int place = tree.placeOf(me.at, me.mid);
            boolean isIt = tree.keyOf(me.at, place) == me.mid && tree.childOf(me.at, place) == me.subject;
            if (!isIt || tree.keyOf(me.at, place + 1) < 0) {
                return me.endsBy(ENDS);
            }
            tree.remove(me.at, place);
            return me.endsBy(POSTED);
        }

        boolean mayMove(int c) {
            if (c < 0 || c >= CLIENTS) {
                return false;
            }
            Client me = clients[c];
            return me.isUnderWay() && !(wouldLock(me) && holderOf(me.at) >= 0);
        }

        /** Whether its STEP is to HOLD the NODE that it is AT. */
        private boolean wouldLock(Client me) {
            if (me.state == DOWN) {
                return me.act != FIND && tree.isLive(me.at) && me.key <= tree.highOf(me.at);
            }
            return me.state == POSTS && tree.levelOf(me.at) == me.above && me.mid <= tree.highOf(me.at);
        }

        /** Which CLIENTS MAY STEP, as bits. */
        int movers() {
            int bits = 0;
            for (int c = 0; c < CLIENTS; c++) {
                if (mayMove(c)) {
                    bits |= 1 << c;
                }
            }
            return bits;
        }

        int holderOf(int n) {
            for (int c = 0; c < CLIENTS; c++) {
                if (clients[c].isHolding(n)) {
                    return c;
                }
            }
            return NONE;
        }

        int lockedNodes() {
            int sum = 0;
            for (int n = 0; n < tree.nodes; n++) {
                if (holderOf(n) >= 0) {
                    sum++;
                }
            }
            return sum;
        }

        boolean twoHoldOne() {
            for (int c = 0; c < CLIENTS; c++) {
                int n = clients[c].at;
                if (clients[c].isHolding(n) && holderOf(n) != c) {
                    return true;
                }
            }
            return false;
        }

        int allRights() {
            int sum = 0;
            for (int c = 0; c < CLIENTS; c++) {
                sum += clients[c].rights;
            }
            return sum;
        }

        boolean allDone() {
            for (int c = 0; c < CLIENTS; c++) {
                if (clients[c].isUnderWay()) {
                    return false;
                }
            }
            return true;
        }

        boolean hasUntrue() {
            for (int c = 0; c < CLIENTS; c++) {
                if (clients[c].isUntrue()) {
                    return true;
                }
            }
            return false;
        }

        /** An IDLE CLIENT has no ANSWER. */
        boolean hasAnswer(int c, int a) {
            return isClient(c) && clients[c].state != IDLE && clients[c].answer == a;
        }
    }

    /** All ROWS of STEPS from a World, with one World kept for each STEP of the row under way. */
    private static final class Walk {
        final World[] stack = new World[MOST_ROW + 1];
        int total, allDone, mostNodes, mostRights, untrue, hits, firstHit;
        long share;
        private int longest, rightsAhead, who, answer;

        Walk() {
            for (int i = 0; i <= MOST_ROW; i++) {
                stack[i] = new World();
            }
        }

        /** Walks all ROWS of n STEPS; hits, firstHit, share tell of a CLIENT's ANSWER. */
        void survey(World from, int n, int c, int a) {
            total = 0;
            allDone = 0;
            mostNodes = 0;
            mostRights = 0;
            untrue = 0;
            hits = 0;
            firstHit = NONE;
            share = 0;
            longest = Math.min(n, MOST_ROW);
            rightsAhead = from.allRights();
            who = c;
            answer = a;
            stack[0].copyFrom(from);
            explore(this, 0, 1, WHOLE);
        }

        private static void explore(Walk walk, int depth, int row, long weight) {
            if (depth < 0 || depth > MOST_ROW) {
                return;
            }
            World here = walk.stack[depth];
            // behind the last STEP nobody moves, and most Worlds are met there: so no look at who may
            int bits = depth < walk.longest && depth < MOST_ROW ? here.movers() : 0;
            int choices = Integer.bitCount(bits);
            if (choices == 0) {
                walk.tally(here, row, weight);
                return;
            }
            World next = walk.stack[depth + 1];
            for (int c = 0; c < CLIENTS; c++) {
                if ((bits & (1 << c)) != 0) {
                    next.copyFrom(here);
                    next.advance(c);
                    explore(walk, depth + 1, row * 10 + c, weight / choices);
                }
            }
        }

        private void tally(World last, int row, long weight) {
            total++;
            if (last.allDone()) {
                allDone++;
            }
            mostNodes = Math.max(mostNodes, last.tree.nodes);
            mostRights = Math.max(mostRights, last.allRights() - rightsAhead);
            if (last.hasUntrue()) {
                untrue++;
            }
            if (last.hasAnswer(who, answer)) {
                hits++;
                share += weight;
                if (firstHit < 0) {
                    firstHit = row;
                }
            }
        }
    }

    /** THE TAPE, and the TOKEN that is read of it. */
    private static final class Tape {
        static final int WRONG = 0, END = 1, NAME = 2, NUMBER = 3, STOP = 4;
        final int[] bytes = new int[TAPE_BYTES];
        int length = 0;
        int kind, start, value;
        private int next;

        boolean append(int c) {
            if (length < 0 || length >= TAPE_BYTES) {
                return false;
            }
            bytes[length] = c;
            length++;
            return true;
        }

        void rewind() {
            next = 0;
        }

        /** Reads the next TOKEN: its kind, its first place, a NUMBER's value. */
        void scan() {
            while (next < length && byteAt(next) == ' ') {
                next++;
            }
            start = next;
            int c = byteAt(start);
            if (start >= length) {
                kind = END;
            } else if (isLetter(c)) {
                kind = NAME;
                while (next < length && isLetter(byteAt(next))) {
                    next++;
                }
            } else if (isFigure(c)) {
                scanNumber();
            } else {
                kind = c == ';' ? STOP : WRONG;
                next++;
            }
        }

        private void scanNumber() {
            value = 0;
            while (next < length && isFigure(byteAt(next))) {
                value = value * 10 + byteAt(next) - '0';
                next++;
            }
            kind = next - start > 2 ? WRONG : NUMBER;
        }

        boolean isName(String name) {
            if (kind != NAME || next - start != name.length()) {
                return false;
            }
            for (int i = 0; i < name.length(); i++) {
                if (byteAt(start + i) != name.charAt(i)) {
                    return false;
                }
            }
            return true;
        }

        /** NONE: no byte stands there. */
        private int byteAt(int i) {
            return i >= 0 && i < length && i < TAPE_BYTES ? bytes[i] : NONE;
        }

        private static boolean isLetter(int c) {
            return c >= 'a' && c <= 'z';
        }

        private static boolean isFigure(int c) {
            return c >= '0' && c <= '9';
        }
    }

    /** What a text tells, or its FAULT and the place of it. */
    private static final class Script {
        int lines, space, many, wrong, place;
        final int[] acts = new int[TEXT_KEYS];
        final int[] keys = new int[TEXT_KEYS];
        final int[] finds = new int[CLIENTS];
        private boolean spaceTold;

        void parse(Tape tape) {
            lines = 0;
            space = FIRST_ROOM;
            spaceTold = false;
            many = 0;
            wrong = 0;
            place = 0;
            Arrays.fill(finds, NONE);
            tape.rewind();
            tape.scan();
            // a line has more than one byte, so there are fewer lines than bytes
            for (int i = 0; i < TAPE_BYTES && tape.kind != Tape.END; i++) {
                if (!parseLine(tape)) {
                    return;
                }
                lines++;
                tape.scan();
            }
        }

        private boolean parseLine(Tape tape) {
            if (tape.isName("room")) {
                return parseRoom(tape);
            }
            if (tape.isName("put")) {
                return parseKeys(tape, PUT);
            }
            if (tape.isName("take")) {
                return parseKeys(tape, TAKE);
            }
            if (tape.isName("find")) {
                return parseFind(tape);
            }
            return refuse(tape, tape.kind == Tape.WRONG ? 1 : 2);
        }

        private boolean parseRoom(Tape tape) {
            if (spaceTold) {
                return refuse(tape, 4);
            }
            if (!takeNumber(tape, LEAST_ROOM, MOST_ROOM)) {
                return false;
            }
            spaceTold = true;
            space = tape.value;
            return takeStop(tape);
        }

        private boolean parseKeys(Tape tape, int act) {
            tape.scan();
            for (int i = 0; i <= TEXT_KEYS; i++) {
                // nothing stands here that could be a KEY, so it is no 41st one either
                if (tape.kind == Tape.WRONG || tape.kind == Tape.END) {
                    return refuse(tape, tape.kind == Tape.WRONG ? 1 : 2);
                }
                // the 41st is refused whether it is a NUMBER or not, so this look comes ahead of that for a NUMBER
                if (many < 0 || many >= TEXT_KEYS) {
                    return refuse(tape, 5);
                }
                if (!isNow(tape, Tape.NUMBER)) {
                    return false;
                }
                acts[many] = act;
                keys[many] = tape.value;
                many++;
                tape.scan();
                if (tape.kind == Tape.STOP) {
                    return true;
                }
            }
            return refuse(tape, 5);
        }

        private boolean parseFind(Tape tape) {
            if (!takeNumber(tape, 0, CLIENTS - 1)) {
                return false;
            }
            int c = tape.value;
            if (!isClient(c) || finds[c] >= 0) {
                return refuse(tape, 4);
            }
            if (!takeNumber(tape, 0, KEY_BOUND - 1)) {
                return false;
            }
            finds[c] = tape.value;
            return takeStop(tape);
        }

        private boolean takeNumber(Tape tape, int least, int most) {
            tape.scan();
            if (!isNow(tape, Tape.NUMBER)) {
                return false;
            }
            return tape.value >= least && tape.value <= most || refuse(tape, 3);
        }

        private boolean takeStop(Tape tape) {
            tape.scan();
            return isNow(tape, Tape.STOP);
        }

        private boolean isNow(Tape tape, int kind) {
            return tape.kind == kind || refuse(tape, tape.kind == Tape.WRONG ? 1 : 2);
        }

        private boolean refuse(Tape tape, int itsFault) {
            wrong = itsFault;
            place = tape.start;
            return false;
        }
    }

    private static final class Sheets {
        /** How many CELLS; NONE: nothing. */
        final int[] length = {NONE, NONE, NONE, NONE};
        final int[] lane = new int[SHEETS];
        private final int[][] cells = new int[SHEETS][CELLS];

        void renew(int k, int itsLane, int n) {
            if (!isSheet(k)) {
                return;
            }
            lane[k] = itsLane;
            length[k] = n;
            Arrays.fill(cells[k], 0);
        }

        /** The FAULT of a CELL that is taken as of a lane, or 0. */
        int faultAt(int k, int asLane, int i) {
            if (!isSheet(k) || length[k] < 0) {
                return NULL_FAULT;
            }
            if (lane[k] != asLane) {
                return CAST_FAULT;
            }
            return i < 0 || i >= length[k] ? INDEX_FAULT : 0;
        }

        int cellAt(int k, int i) {
            return isSheet(k) && i >= 0 && i < CELLS ? cells[k][i] : NONE;
        }

        void write(int k, int i, int v) {
            if (!isSheet(k) || i < 0 || i >= CELLS) {
                return;
            }
            cells[k][i] = lane[k] == 0 ? (byte) v : lane[k] == 1 ? (short) v : v;
        }
    }
}
