/** What is told of NODES, ENTRIES, CLIENTS, LEAVES, and what holds, promises 6 to 10, 20, 21: a test for each sentence that names an edge. */
public final class LookSentencesTest extends Sentences {
    private static LinkTree three() {
        return told("room 2;put 10 20 30;");
    }

    /** As many NODES as there may be; its leaves are 1 2, 3 4, .. 23 24. */
    private static LinkTree full() {
        return told("room 2;put" + numbers(1, 24, 1) + ";");
    }

    private static void rules() {
        says("0 NODES, 1 THE ROOT, 2 its LEVEL, 3 ROOM, 4 KEYS of all LEAVES that are not DEAD, 5 LOCKED NODES, 6 DEAD ones,");
        bounds("rule", 0, 7, new LinkTree()::rule);
        due("of one leaf", three().rule(0) * 100 + three().rule(1) * 10 + three().rule(2), 321);
        due("of 24 nodes", full().rule(0) * 1000 + full().rule(1) * 10 + full().rule(2), 24194);
        due("keys, not entries", full().rule(4), 24);
        LinkTree x = told("room 2;put 10 20 30;take 10;");
        x.begin(1, TAKE, 20);
        x.go(1, 2);
        due("keys ahead of a death", x.rule(4) * 10 + x.rule(6), 20);
        x.step(1);
        due("keys behind a death", x.rule(4) * 10 + x.rule(6), 11);
        x.go(1, 60);
        due("dead for ever", x.rule(6), 1);
    }

    private static void locks() {
        says("A NODE is LOCKED by a CLIENT that HOLDS it (AT, in STATES 2, 4).");
        LinkTree x = full();
        for (int c = 0; c < 3; c++) {
            x.begin(c, PUT, 4 * c);
            due("locked by " + c + " clients", x.rule(5), c);
            x.go(c, 4);
            due("down is no lock", x.client(c, 0) * 10 + x.rule(5), 10 + c);
            due("at", x.node(x.client(c, 3), 4), NONE);
            x.step(c);
            due("holds", x.client(c, 0), HOLDS);
            due("locked by", x.node(x.client(c, 3), 4), c);
        }
        due("locked by three", x.rule(5), 3);
        LinkTree y = three();
        y.begin(2, PUT, 15);
        due("to the split", codes(y, 2, 3), "245");
        due("posts is no lock", y.client(2, 0) * 100 + y.rule(5) * 10 + y.client(2, 3), 302);
        y.step(2);
        due("holds above", y.client(2, 0) * 10 + y.node(2, 4), 42);
        due("the leaf is free", y.node(0, 4), NONE);
        y.go(2, 60);
        due("done is no lock", y.client(2, 0) * 10 + y.rule(5), 50);
        LinkTree z = new LinkTree();
        z.begin(0, PUT, 1);
        z.go(0, 60);
        due("done where it held", z.client(0, 3) * 10 + z.node(0, 4), NONE);
    }

    private static void mayStep() {
        says("A CLIENT may STEP, if its STATE is 1 to 4, and its STEP would not be nothing.");
        LinkTree x = three();
        due("idle", x.rule(7), 0);
        x.begin(0, PUT, 15);
        x.begin(1, PUT, 18);
        x.begin(2, FIND, 10);
        due("down", x.rule(7), 7);
        x.step(1);
        x.step(2);
        x.go(0, 2);
        due("locked: not who puts, but who finds", x.rule(7), 5);
        x.step(0);
        due("posts, and the lock is gone", x.client(0, 0) * 10 + x.rule(7), 37);
        x.step(2);
        due("done", x.rule(7), 3);
        x.begin(2, TAKE, 10);
        x.go(2, 2);
        due("locked, but its key is above the high", x.node(0, 4) * 100 + x.client(1, 3) * 10 + x.rule(7), 207);
        due("so it goes right", x.step(1), 1);
    }

    private static void mayPost() {
        says("7 which CLIENTS MAY STEP (bits). BAD.");
        LinkTree x = told("room 2;put 10 20 30 40;");
        x.begin(0, PUT, 50);
        due("to the split", codes(x, 0, 3), "245");
        x.begin(1, PUT, 15);
        due("to the lock above", codes(x, 1, 4), "2454");
        due("who posts waits", x.rule(7), 2);
        due("with nothing", x.step(0), 0);
        due("splits above, new root", codes(x, 1, 2), "57");
        due("nodes", shapes(x, 2, 5, 6), "1:15>0 20>4|20 5 / 1:100>1|100 - / 2:20>2 100>5|100 -");
        x.begin(2, PUT, 12);
        due("the left one is locked", codes(x, 2, 5), "22454");
        due("locked by", x.node(2, 4), 2);
        due("MID above the HIGH of a LOCKED one", x.client(0, 3) * 10 + x.rule(7), 25);
        due("goes right, posts", codes(x, 0, 3), "148");
        due("posted", shape(x, 5), "1:40>1 100>3|100 -");
    }

    private static void nodes() {
        says("Of a NODE: 0 LEVEL, 1 how many KEYS, ENTRIES, 2 HIGH, 3 RIGHT (NONE), 4 the CLIENT by which it is LOCKED (NONE), 5 whether it is DEAD (1, 0).");
        bounds("node of one", 0, 0, n -> new LinkTree().node(n, 0));
        bounds("node of three", 0, 2, n -> three().node(n, 0));
        bounds("node of 24", 0, 23, n -> full().node(n, 2));
        bounds("node what", 0, 5, what -> three().node(0, what));
        due("an empty leaf", new LinkTree().node(0, 1), 0);
        due("a full leaf", three().node(0, 1), 2);
        due("highs", three().node(0, 2) * 1000 + three().node(1, 2), 20100);
        due("rights", "" + three().node(0, 3) + three().node(1, 3) + three().node(2, 3), "1-4-4");
        due("not dead", three().node(0, 5), 0);
        due("dead", told("room 2;put 10 20 30;take 10 20;").node(0, 5), 1);
        due("bad fits first", three().node(3, 6), BAD);
    }

    private static void nodesInOrder() {
        says("NODES 0 on (24 at most, in the order in which they were made)");
        LinkTree x = told("room 2;put 10 20;");
        x.begin(0, PUT, 30);
        x.go(0, 2);
        x.begin(1, PUT, 40);
        x.go(1, 60);
        x.begin(1, PUT, 50);
        due("a second split ahead of the root", codes(x, 1, 3), "145");
        due("nodes", tree(x), "0:10 20|20 1 / 0:30 40|40 2 / 0:50|100 -");
        due("the root comes", x.step(0), 7);
        due("root", x.rule(1), 3);
        due("a 25th", act(full(), 0, PUT, 25), FULL);
    }

    private static void entries() {
        says("KEY i of a NODE (what 0), CHILD of its ENTRY i (1; NONE: it is a LEAF). BAD.");
        bounds("entry's node", 0, 2, n -> three().entry(n, 0, 0));
        bounds("entry of a leaf of two", 0, 1, i -> three().entry(0, i, 0));
        bounds("entry of a leaf of one", 0, 0, i -> three().entry(1, i, 0));
        bounds("entry of a root", 0, 1, i -> three().entry(2, i, 1));
        bounds("entry what", 0, 1, what -> three().entry(2, 0, what));
        due("of an empty leaf", new LinkTree().entry(0, 0, 0), BAD);
        due("bad fits ahead of none", new LinkTree().entry(0, 0, 1), BAD);
        due("and here", three().entry(1, 1, 1), BAD);
        due("a leaf's", three().entry(0, 0, 1), NONE);
        due("keys", three().entry(0, 0, 0) * 100 + three().entry(0, 1, 0), 1020);
        due("entries", three().entry(2, 0, 0) * 1000 + three().entry(2, 1, 0), 20100);
        due("children", three().entry(2, 0, 1) * 10 + three().entry(2, 1, 1), 1);
        due("what went is no entry", told("put 1 2 3;take 2;").entry(0, 2, 0), BAD);
        LinkTree four = told("room 4;put 0 99 98 97;");
        due("four", "" + four.entry(0, 0, 0) + four.entry(0, 3, 0) + four.entry(0, 4, 0), "099-1");
    }

    private static void clients() {
        says("BAD; 1 to 7, if it is IDLE: STATE.");
        LinkTree x = three();
        bounds("client", 0, 2, c -> x.client(c, 0));
        bounds("client what of an idle one", 0, 7, what -> x.client(0, what));
        for (int what = 1; what < 8; what++) {
            due("idle " + what, x.client(0, what), STATE);
        }
        due("idle 0", x.client(0, 0), 0);
        x.begin(0, PUT, 15);
        bounds("client what of one under way", 0, 7, what -> x.client(0, what));
        due("bad fits first", x.client(3, 1), BAD);
        says("4 ANSWER (NONE: it has none yet)");
        due("down", whole(x, 0), "1 1 15 2 -4 1 0 0");
        x.step(0);
        due("down, at a leaf", whole(x, 0), "1 1 15 0 -4 1 1 0");
        x.step(0);
        due("holds", whole(x, 0), "2 1 15 0 -4 1 2 0");
        x.step(0);
        due("posts", whole(x, 0), "3 1 15 2 1 3 3 0");
        x.step(0);
        due("holds above", whole(x, 0), "4 1 15 2 1 3 4 0");
        due("splits above", codes(x, 0, 2), "57");
        due("done", whole(x, 0), "5 1 15 2 1 3 6 0");
        x.drop(0);
        due("dropped", whole(x, 0), "0 -2 -2 -2 -2 -2 -2 -2");
        says("6 how many STEPS (not nothing) it has made, 7 how many of them to a RIGHT.");
        LinkTree y = told("room 2;put 10 20;");
        y.begin(0, PUT, 30);
        due("to the split", codes(y, 0, 2), "45");
        y.begin(1, FIND, 30);
        due("right, done, nothing", codes(y, 1, 4), "1300");
        due("steps and rights", y.client(1, 6) * 10 + y.client(1, 7), 21);
        y.begin(1, PUT, 15);
        y.begin(2, PUT, 20);
        y.step(1);
        due("waits", codes(y, 2, 2), "00");
        due("nothing is no step", y.client(2, 6), 0);
        y.begin(1, FIND, 1);
        due("refused, no step", y.client(1, 6), 1);
    }

    private static void keysThere() {
        says("Whether a KEY (0 to 99) is in a LEAF that is not DEAD (1, 0). BAD.");
        bounds("there", 0, 99, three()::there);
        LinkTree x = told("put 0 99;");
        due("the least, the greatest", "" + x.there(0) + x.there(1) + x.there(98) + x.there(99), "1001");
        LinkTree y = told("room 2;put 10 20 30;take 20;");
        due("an entry's key is there", shape(y, 2), "1:20>0 100>1|100 -");
        due("but in no leaf", y.there(20), 0);
        due("a new object", new LinkTree().there(0), 0);
    }

    private static void leaves() {
        says("Of the LEAVES from the leftmost one on by RIGHTS, DEAD ones too: which NODE is the i-th (0 on). BAD; NONE: there are not so many.");
        LinkTree x = new LinkTree();
        due("of one", "" + x.leaf(-1) + x.leaf(0) + x.leaf(1), "-10-4");
        LinkTree y = told("room 2;put 10 20 30 15;take 10 15;");
        due("tree", shapes(y, 0, 3, 1), "0:|15 3 x / 0:20|20 1 / 0:30|100 -");
        due("of three", "" + y.leaf(-1) + y.leaf(0) + y.leaf(1) + y.leaf(2) + y.leaf(3), "-1031-4");
        due("far", y.leaf(Integer.MIN_VALUE) * 10 + y.leaf(Integer.MAX_VALUE), -14);
        LinkTree z = full();
        int leaves = z.count(0);
        due("the last of 24 nodes", z.node(z.leaf(leaves - 1), 2), 100);
        due("behind it", z.leaf(leaves), NONE);
        due("24th, 25th", z.leaf(23) + z.leaf(24), 2 * NONE);
        LinkTree w = told("room 2;put 10 20;");
        w.begin(0, PUT, 30);
        w.go(0, 2);
        due("not posted yet", "" + w.leaf(1) + w.leaf(2), "1-4");
    }

    private static void checks() {
        says("What does not hold, the first (0: all does)");
        due("a new object", new LinkTree().check(), 0);
        due("24 nodes", full().check(), 0);
        LinkTree x = told("room 2;put 10 20;");
        x.begin(0, PUT, 30);
        x.go(0, 2);
        due("a split that is not posted", x.check(), 0);
        x.begin(1, PUT, 5);
        x.step(1);
        due("a node is locked", x.check(), 0);
        due("dead ones", told("room 2;put 10 20 30 40 50;take 10 20 30 40 50;").check(), 0);
        says("3 HIGH of a NODE that is not DEAD is not below that of its RIGHT");
        LinkTree y = told("room 2;put 10 20 30 40 50;take 30 40 50;put 25 30 99 40;take 99;put 35;");
        due("a dead one's high", shapes(y, 1, 3, 6), "0:|40 3 x / 0:25 30|30 6 / 0:35 40|100 -");
        due("dead ones do not count", y.check(), 0);
        y.begin(0, PUT, 98);
        due("to the split", codes(y, 0, 4), "2245");
        due("a leaf with the high of a dead one", shape(y, 6) + " " + y.check(), "0:35 40|40 7 0");
        due("to the split above", codes(y, 0, 2), "45");
        due("equal highs above", shapes(y, 2, 4), "1:20>0 40>1|40 4 / 1:30>3 40>6|40 8");
        due("not below", y.check(), 3);
        due("MID is there already", codes(y, 0, 3), "430");
    }

    /** A LEAF with KEY 0 alone, past a dead LEAF whose ENTRY goes: no way leads there. */
    private static void lostKey() {
        says("6 a KEY that is there is not found by going down from THE ROOT with no other STEPS between.");
        LinkTree x = three();
        x.begin(0, PUT, 5);
        due("a split with MID 10", codes(x, 0, 3), "245");
        act(x, 1, TAKE, 5);
        x.begin(1, TAKE, 10);
        due("a death with MID 10", codes(x, 1, 3), "246");
        act(x, 2, PUT, 10);
        act(x, 2, PUT, 0);
        act(x, 2, TAKE, 10);
        due("leaves", shapes(x, 0, 3, 4, 2), "0:|10 3 x / 0:0|10 4 / 0:20|20 1 / 1:10>0 20>4|20 5");
        due("found yet", x.check(), 0);
        due("the entry goes", codes(x, 1, 3), "480");
        due("lost", x.there(0) * 10 + x.check(), 16);
        due("none finds it", act(x, 2, FIND, 0), 0);
    }

    public static void main(String[] args) {
        rules();
        locks();
        mayStep();
        mayPost();
        nodes();
        nodesInOrder();
        entries();
        clients();
        keysThere();
        leaves();
        checks();
        lostKey();
        close("LookSentencesTest");
    }
}
