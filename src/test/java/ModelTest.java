import java.util.ArrayList;
import java.util.List;
import java.util.Random;

/** Random runs of calls, each answered by LinkTree and by Model; the seeds are fixed, so a run can be had again. */
public final class ModelTest {
    private final LinkTree tree = new LinkTree();
    private final Model model = new Model();
    private final List<String> calls = new ArrayList<>();
    private final Random dice;
    private boolean same = true;

    private ModelTest(long seed) {
        dice = new Random(seed);
    }

    private void due(String call, long got, long want) {
        calls.add(call + " " + want);
        if (got != want && same) {
            same = false;
            System.out.println(String.join("\n", calls));
            System.out.println("answered " + got + ", due is " + want);
        }
    }

    /** Mostly from low to high, now and then beside it. */
    private int about(int low, int high) {
        int roll = dice.nextInt(60);
        if (roll == 0) {
            return low - 1;
        }
        if (roll == 1) {
            return high + 1;
        }
        if (roll == 2) {
            return dice.nextInt();
        }
        return low + dice.nextInt(high - low + 1);
    }

    private void feedAll(String s) {
        for (char c : s.toCharArray()) {
            due("feed(" + (int) c + ")", tree.feed(c), model.feed(c));
        }
    }

    private void text(String s) {
        feedAll(s);
        due("count(2)", tree.count(2), model.count(2));
        due("text() of " + s, tree.text(), model.text());
        due("fault()", tree.fault(), model.fault());
    }

    private String randomText(int span) {
        StringBuilder b = new StringBuilder();
        if (dice.nextInt(3) > 0) {
            b.append("room ").append(2 + dice.nextInt(3)).append(';');
        }
        int lines = dice.nextInt(4);
        for (int i = 0; i < lines; i++) {
            b.append(dice.nextInt(4) == 0 ? "take" : "put");
            int n = 1 + dice.nextInt(14);
            for (int j = 0; j < n; j++) {
                b.append(' ').append(dice.nextInt(span));
            }
            b.append("; ".substring(0, 1 + dice.nextInt(2)));
        }
        for (int c = 0; c < 3; c++) {
            if (dice.nextInt(3) == 0) {
                b.append("find ").append(c).append(' ').append(dice.nextInt(span)).append(';');
            }
        }
        return b.toString();
    }

    private String spoiled(String s) {
        StringBuilder b = new StringBuilder(s);
        String marks = "0123456789;; ;abputroomtakefind :/`{A\u0000\u007f";
        int n = 1 + dice.nextInt(3);
        for (int i = 0; i < n; i++) {
            int at = dice.nextInt(b.length() + 1);
            if (dice.nextInt(2) == 0 && at < b.length()) {
                b.deleteCharAt(at);
            } else {
                b.insert(at, marks.charAt(dice.nextInt(marks.length())));
            }
        }
        return b.toString();
    }

    private void compareAll() {
        for (int what = -1; what <= 8; what++) {
            due("rule(" + what + ")", tree.rule(what), model.rule(what));
            due("count(" + what + ")", tree.count(what), model.count(what));
            for (int n = -1; n <= 24; n++) {
                due("node(" + n + ", " + what + ")", tree.node(n, what), model.node(n, what));
            }
            for (int c = -1; c <= 3; c++) {
                due("client(" + c + ", " + what + ")", tree.client(c, what), model.client(c, what));
            }
        }
        for (int n = -1; n <= 24; n++) {
            due("leaf(" + n + ")", tree.leaf(n), model.leaf(n));
            for (int i = -1; i <= 5; i++) {
                for (int what = -1; what <= 2; what++) {
                    due("entry(" + n + ", " + i + ", " + what + ")", tree.entry(n, i, what), model.entry(n, i, what));
                }
            }
        }
        for (int key = -1; key <= 100; key++) {
            due("there(" + key + ")", tree.there(key), model.there(key));
        }
        due("check()", tree.check(), model.check());
        due("torn()", tree.torn(), model.torn());
        due("fault()", tree.fault(), model.fault());
    }

    private void askRows(int longest) {
        int n = about(0, longest);
        int c = about(0, 2);
        int a = about(0, 1);
        int what = about(0, 4);
        if (n > longest && n <= 7) {
            n = longest;
        }
        due("rows(" + n + ", " + what + ")", tree.rows(n, what), model.rows(n, what));
        due("answers(" + c + ", " + n + ", " + a + ")", tree.answers(c, n, a), model.answers(c, n, a));
        due("first(" + c + ", " + n + ", " + a + ")", tree.first(c, n, a), model.first(c, n, a));
        int part = about(0, 1);
        due("chance(" + c + ", " + n + ", " + a + ", " + part + ")", tree.chance(c, n, a, part), model.chance(c, n, a, part));
    }

    private void move(int span) {
        int c = about(0, 2);
        switch (dice.nextInt(12)) {
            case 0: case 1: case 2: {
                int act = about(0, 2);
                int key = dice.nextInt(40) == 0 ? about(0, 99) : dice.nextInt(span);
                due("begin(" + c + ", " + act + ", " + key + ")", tree.begin(c, act, key), model.begin(c, act, key));
                break;
            }
            case 3: {
                int n = about(0, 60);
                due("go(" + c + ", " + n + ")", tree.go(c, n), model.go(c, n));
                break;
            }
            case 4:
                due("drop(" + c + ")", tree.drop(c), model.drop(c));
                break;
            default:
                due("step(" + c + ")", tree.step(c), model.step(c));
                break;
        }
    }

    private void useSheets(int span) {
        int k = dice.nextInt(4) == 0 ? about(0, 3) : 0;
        int lane = dice.nextInt(3) == 0 ? about(0, 2) : 0;
        switch (dice.nextInt(6)) {
            case 0: {
                int n = about(0, 40);
                due("sheet(" + k + ", " + lane + ", " + n + ")", tree.sheet(k, lane, n), model.sheet(k, lane, n));
                break;
            }
            case 1: {
                int f = about(0, 6);
                int n = dice.nextInt(4) == 0 ? about(0, 40) : about(0, 5);
                due("read(" + k + ", " + lane + ", " + f + ", " + n + ")", tree.read(k, lane, f, n), model.read(k, lane, f, n));
                due("torn()", tree.torn(), model.torn());
                break;
            }
            default: {
                int i = dice.nextInt(3) == 0 ? about(0, 39) : dice.nextInt(8);
                int v = dice.nextInt(12) == 0 ? dice.nextInt() : dice.nextInt(20) == 0 ? 256 * dice.nextInt(300) + dice.nextInt(span)
                    : dice.nextInt(span);
                due("lay(" + k + ", " + i + ", " + v + ")", tree.lay(k, i, v), model.lay(k, i, v));
                break;
            }
        }
    }

    private boolean run(int length) {
        int span = new int[] {6, 12, 30, 60, 100}[dice.nextInt(5)];
        for (int i = 0; i < length && same; i++) {
            int roll = dice.nextInt(100);
            if (i == 0 && roll < 80 || roll == 0) {
                text(randomText(span));
            } else if (roll == 1) {
                text(spoiled(randomText(span)));
            } else if (roll < 5) {
                askRows(dice.nextInt(40) == 0 ? 6 : 3);
            } else if (roll < 7) {
                int k = about(0, 1);
                due("keep(" + k + ")", tree.keep(k), model.keep(k));
            } else if (roll == 7 && dice.nextInt(3) == 0) {
                int k = about(0, 1);
                due("back(" + k + ")", tree.back(k), model.back(k));
            } else if (roll == 8) {
                int v = about(2, 4);
                due("room(" + v + ")", tree.room(v), model.room(v));
            } else if (roll == 9) {
                int n = about(0, 3);
                due("end(" + n + ")", tree.end(n), model.end(n));
            } else if (roll < 20) {
                useSheets(span);
            } else {
                move(span);
            }
            if (dice.nextInt(25) == 0) {
                compareAll();
            }
        }
        compareAll();
        return same;
    }

    public static void main(String[] args) {
        int first = args.length > 0 ? Integer.parseInt(args[0]) : 0;
        int runs = args.length > 1 ? Integer.parseInt(args[1]) : 400;
        int wrong = 0;
        for (int seed = first; seed < first + runs && wrong < 3; seed++) {
            if (!new ModelTest(seed).run(300)) {
                wrong++;
                System.out.println("seed " + seed);
            }
        }
        System.out.println("ModelTest: " + (wrong == 0 ? "all answers are as the model's" : wrong + " runs are not as the model's"));
        if (wrong != 0) {
            System.exit(1);
        }
    }
}
