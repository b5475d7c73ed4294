import java.io.IOException;
import java.nio.file.Files;
import java.nio.file.Path;
import java.util.ArrayList;
import java.util.List;
import java.util.function.IntToLongFunction;

/** What the tests share: a sentence of the document that is tried, calls with the answers that are due, states told in a line. */
abstract class Sentences {
    static final int BAD = LinkTree.BAD, STATE = LinkTree.STATE, FULL = LinkTree.FULL, NONE = LinkTree.NONE;
    static final int FIND = 0, PUT = 1, TAKE = 2;
    static final int IDLE = 0, DOWN = 1, HOLDS = 2, POSTS = 3, HOLDS_ABOVE = 4, DONE = 5;
    private static final Path DOCUMENT = Path.of("../shared/DOC.md");
    private static final List<String> QUOTES = new ArrayList<>();
    private static String sentence = "";
    private static int wrong = 0;
    private static int asked = 0;

    /** The sentence, word for word as in the document, that the next answers belong to. */
    static void says(String words) {
        sentence = words;
        QUOTES.add(words);
    }

    static void due(String call, long got, long want) {
        due(call, Long.toString(got), Long.toString(want));
    }

    static void due(String call, String got, String want) {
        asked++;
        if (!got.equals(want)) {
            wrong++;
            System.out.println((sentence.isEmpty() ? "" : "\"" + sentence + "\": ") + call + " answered " + got + ", due is " + want);
        }
    }

    /** A number from low to high is taken, one beside them is BAD. */
    static void bounds(String call, int low, int high, IntToLongFunction asking) {
        for (int n : new int[] {low, high}) {
            due(call + " with " + n + " is BAD", asking.applyAsLong(n) == BAD ? 1 : 0, 0);
        }
        for (int n : new int[] {low - 1, high + 1, Integer.MIN_VALUE, Integer.MAX_VALUE}) {
            due(call + " with " + n, asking.applyAsLong(n), BAD);
        }
    }

    /** A call that is refused with this answer, and leaves all as it was. */
    static void refusedWith(int answer, String call, LinkTree x, IntToLongFunction asking) {
        String ahead = all(x);
        due(call, asking.applyAsLong(0), answer);
        due("what stands behind " + call, all(x), ahead);
    }

    static void feedAll(LinkTree x, String s) {
        for (int i = 0; i < s.length(); i++) {
            due("feed", x.feed(s.charAt(i)), i + 1);
        }
    }

    /** A new object with a text that is taken. */
    static LinkTree told(String s) {
        LinkTree x = new LinkTree();
        feedAll(x, s);
        int lines = (int) s.chars().filter(c -> c == ';').count();
        due("text of " + s, x.text(), lines);
        due("fault of " + s, x.fault(), 0);
        return x;
    }

    /** A whole NODE: LEVEL:KEYS(>CHILD)|HIGH RIGHT, x: it is DEAD. */
    static String shape(LinkTree x, int n) {
        StringBuilder b = new StringBuilder();
        b.append(x.node(n, 0)).append(':');
        for (int i = 0; i < x.node(n, 1); i++) {
            b.append(i == 0 ? "" : " ").append(x.entry(n, i, 0));
            if (x.entry(n, i, 1) != NONE) {
                b.append('>').append(x.entry(n, i, 1));
            }
        }
        b.append('|').append(x.node(n, 2)).append(' ').append(x.node(n, 3) == NONE ? "-" : x.node(n, 3));
        return b.append(x.node(n, 5) == 1 ? " x" : "").toString();
    }

    static String shapes(LinkTree x, int... nodes) {
        StringBuilder b = new StringBuilder();
        for (int n : nodes) {
            b.append(b.length() == 0 ? "" : " / ").append(shape(x, n));
        }
        return b.toString();
    }

    static String tree(LinkTree x) {
        int[] nodes = new int[Math.max(0, x.rule(0))];
        for (int n = 0; n < nodes.length; n++) {
            nodes[n] = n;
        }
        return shapes(x, nodes);
    }

    /** The CODES of n STEPS of a CLIENT. */
    static String codes(LinkTree x, int c, int n) {
        StringBuilder b = new StringBuilder();
        for (int i = 0; i < n; i++) {
            b.append(x.step(c));
        }
        return b.toString();
    }

    /** All that is told of a CLIENT. */
    static String whole(LinkTree x, int c) {
        StringBuilder b = new StringBuilder();
        for (int what = 0; what < 8; what++) {
            b.append(what == 0 ? "" : " ").append(x.client(c, what));
        }
        return b.toString();
    }

    /** All that can be asked and changes nothing, in one line; it takes more calls than the document wants of one object. */
    static String all(LinkTree x) {
        StringBuilder b = new StringBuilder(tree(x));
        for (int what = 0; what < 8; what++) {
            b.append(what == 0 ? " rule " : " ").append(x.rule(what));
        }
        for (int what = 0; what < 6; what++) {
            b.append(what == 0 ? " count " : " ").append(x.count(what));
        }
        for (int c = 0; c < 3; c++) {
            b.append(" client ").append(whole(x, c));
        }
        for (int c = 0; c < 3; c++) {
            b.append(' ').append(x.first(c, 5, 0)).append(' ').append(x.first(c, 5, 1));
        }
        return b.append(" fault ").append(x.fault()).append(" torn ").append(x.torn()).append(" check ").append(x.check()).toString();
    }

    /** An ACT of a CLIENT from its beginning to its end: its ANSWER. */
    static int act(LinkTree x, int c, int act, int key) {
        x.begin(c, act, key);
        x.go(c, 60);
        return x.drop(c);
    }

    static String numbers(int from, int to, int by) {
        StringBuilder b = new StringBuilder();
        for (int n = from; n <= to; n += by) {
            b.append(' ').append(n);
        }
        return b.toString();
    }

    /** A quote that the document does not have tests nothing of it. */
    private static void lookUpQuotes() {
        String document;
        try {
            document = Files.readString(DOCUMENT).replaceAll("\\s+", " ");
        } catch (IOException e) {
            document = "";
        }
        for (String quote : QUOTES) {
            sentence = "";
            due("does the document say \"" + quote + "\"", document.contains(quote) ? 1 : 0, 1);
        }
    }

    static void close(String name) {
        lookUpQuotes();
        System.out.println(name + ": " + asked + " answers, " + wrong + " not as due");
        if (wrong != 0) {
            System.exit(1);
        }
    }
}
