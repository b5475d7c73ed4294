/** IMAGES, SHEETS, and what is counted, promises 22 to 28: a test for each sentence that names an edge. */
public final class SheetSentencesTest extends Sentences {
    private static final int[] LEAST_SIZES = {-1, Integer.MIN_VALUE};

    /** An object with SHEET 0 of a lane, and what is laid on it from CELL 0 on. */
    private static LinkTree laid(String text, int lane, int... cells) {
        LinkTree x = told(text);
        due("sheet", x.sheet(0, lane, cells.length), 1);
        for (int i = 0; i < cells.length; i++) {
            due("lay", x.lay(0, i, cells[i]), 1);
        }
        return x;
    }

    private static LinkTree full() {
        return told("room 2;put" + numbers(1, 24, 1) + ";");
    }

    private static void keeps() {
        says("IMAGE k (0, 1) is NODES, THE ROOT, ROOM, CLIENTS: whether there was one (1, 0). BAD.");
        LinkTree x = new LinkTree();
        bounds("keep", 0, 1, k -> new LinkTree().keep(k));
        refusedWith(BAD, "keep(2)", x, i -> x.keep(2));
        due("first", x.keep(0) * 10 + x.keep(1), 0);
        due("again", x.keep(0) * 10 + x.keep(1), 11);
        due("images", x.count(1), 2);
        LinkTree y = told("room 2;put 10 20;find 1 20;");
        y.begin(0, PUT, 30);
        y.go(0, 2);
        y.step(1);
        y.keep(1);
        y.room(4);
        y.go(0, 60);
        y.drop(0);
        y.begin(2, TAKE, 10);
        y.go(2, 60);
        y.drop(1);
        due("back", y.back(1), 2);
        due("nodes, root, room, clients", tree(y) + whole(y, 0) + whole(y, 1) + whole(y, 2) + y.rule(1) + y.rule(3),
            "0:10 20|20 1 / 0:30|100 -" + "3 1 30 0 1 3 2 0" + "5 0 20 0 1 2 1 0" + "0 -2 -2 -2 -2 -2 -2 -2" + "02");
        due("what it is to post", codes(y, 0, 2), "70");
    }

    private static void backs() {
        says("All is as IMAGE k: NODES. BAD; STATE: there is none.");
        LinkTree x = told("room 2;put 10 20 30;");
        bounds("back", 0, 1, x::back);
        refusedWith(STATE, "back(0)", x, i -> x.back(0));
        refusedWith(BAD, "bad fits first", x, i -> x.back(2));
        x.keep(1);
        refusedWith(STATE, "the other", x, i -> x.back(0));
        String kept = all(x);
        act(x, 0, PUT, 15);
        due("more nodes", x.rule(0), 6);
        due("back", x.back(1), 3);
        due("all is as it was", all(x), kept);
        due("twice", x.back(1), 3);
        x.feed('x');
        x.sheet(0, 0, 7);
        x.read(3, 0, 0, 1);
        x.back(1);
        due("tape, sheets, torn are no part of it", "" + x.count(2) + x.count(3) + x.torn(), "171");
        x.text();
        x.back(1);
        due("fault is no part of it", x.fault(), 2);
        LinkTree y = full();
        y.keep(0);
        y.text();
        due("gone by a text", y.back(0), STATE);
        LinkTree z = full();
        z.keep(0);
        act(z, 0, TAKE, 1);
        act(z, 0, TAKE, 2);
        z.keep(1);
        due("24 nodes", z.back(0) * 10 + z.rule(6), 240);
        due("the other is another", z.back(1) * 10 + z.rule(6), 241);
        act(z, 0, TAKE, 24);
        due("what comes behind is none of it", z.back(0) * 10 + z.there(24), 241);
        LinkTree w = told("room 4;put 1 2;");
        w.keep(0);
        act(w, 0, PUT, 3);
        act(w, 0, PUT, 4);
        act(w, 0, PUT, 5);
        w.back(0);
        due("room 2 again", w.room(2), 4);
        due("another split", act(w, 0, PUT, 9), 1);
        due("nodes are made anew", tree(w), "0:1 2|2 1 / 0:9|100 - / 1:2>0 100>1|100 -");
    }

    private static void paths() {
        says("an ANSWER, a PATH (of each LEVEL a NODE, or none).");
        LinkTree x = told("room 2;put 10 20 30 40 50;");
        x.begin(1, PUT, 15);
        due("down the left", codes(x, 1, 2), "22");
        x.keep(0);
        x.go(1, 60);
        x.begin(1, FIND, 50);
        due("down the right", x.go(1, 60), 4);
        x.back(0);
        due("to the split", codes(x, 1, 2), "45");
        due("at the path of the image", x.client(1, 3), 2);
        due("on", codes(x, 1, 6), "454570");
    }

    private static void sheets() {
        says("A SHEET is a new row of CELLS 0: 1. BAD: also n above 40; -10 - 4.");
        bounds("sheet k", 0, 3, k -> new LinkTree().sheet(k, 0, 1));
        bounds("sheet lane", 0, 2, lane -> new LinkTree().sheet(0, lane, 1));
        for (int lane = 0; lane < 3; lane++) {
            LinkTree x = new LinkTree();
            due("0 cells", x.sheet(0, lane, 0) * 10 + x.count(3), 10);
            due("a cell of none", x.lay(0, 0, 1), -12);
            due("40 cells", x.sheet(0, lane, 40) * 100 + x.count(3), 140);
            int its = lane;
            refusedWith(BAD, "41 cells", x, i -> x.sheet(0, its, 41));
            refusedWith(BAD, "far too many", x, i -> x.sheet(0, its, Integer.MAX_VALUE));
            for (int n : LEAST_SIZES) {
                refusedWith(-14, "below 0", x, i -> x.sheet(0, its, n));
                refusedWith(BAD, "bad k fits first", x, i -> x.sheet(4, its, n));
                refusedWith(BAD, "bad lane fits first", x, i -> x.sheet(0, its + 3, n));
            }
            due("the last cell", x.lay(0, 39, 7), 1);
            due("cells are 0", x.read(0, lane, 0, 39) * 100 + x.count(4), 3900);
            due("the last one is not", x.read(0, lane, 39, 1) * 10 + x.count(4), 17);
            due("anew", x.sheet(0, lane, 40), 1);
            due("all 0 again", x.read(0, lane, 0, 40) * 100 + x.count(4), 4007);
        }
        LinkTree y = laid("", 0, 5, 6, 7);
        due("shorter", y.sheet(0, 0, 2) * 10 + y.lay(0, 2, 1), -2);
        due("and longer", y.sheet(0, 0, 3) * 10 + y.read(0, 0, 2, 1), 11);
        due("a 0 stands there", y.there(0) * 10 + y.there(7), 10);
        due("another lane", y.sheet(0, 2, 3) * 10 + y.read(0, 0, 0, 1), 10);
        due("torn by it", y.torn(), 3);
    }

    private static void lays() {
        says("CELL i of a SHEET becomes v (its lowest bits): 1. BAD: k; -10 less the FAULT: NULL, INDEX.");
        LinkTree x = laid("", 0, 0, 0);
        bounds("lay k", 0, 3, k -> x.lay(k, 0, 0));
        due("cells", "" + x.lay(0, -1, 1) + x.lay(0, 0, 1) + x.lay(0, 1, 1) + x.lay(0, 2, 1), "-1211-12");
        due("far", "" + x.lay(0, Integer.MIN_VALUE, 1) + x.lay(0, Integer.MAX_VALUE, 1), "-12-12");
        for (int k = 1; k < 4; k++) {
            due("nothing", "" + x.lay(k, 0, 1) + x.lay(k, -1, 1) + x.lay(k, 40, 1), "-11-11-11");
            x.sheet(k, 2, 3);
            due("something", "" + x.lay(k, 2, 1) + x.lay(k, 3, 1), "1-12");
        }
        due("bad fits first", x.lay(4, -1, 1), BAD);
        due("lay is no read", x.torn(), 0);
    }

    /** What is laid, and the KEY that it is then; no KEY: -20. */
    private static void bits(int lane, int[][] cells) {
        for (int[] cell : cells) {
            LinkTree x = laid("", lane, cell[0]);
            due("lane " + lane + " laid " + cell[0], x.read(0, lane, 0, 1), cell[1] < 0 ? -20 : 1);
            due("lane " + lane + " keys of " + cell[0], x.rule(4) * 100 + x.count(4), cell[1] < 0 ? 0 : 100 + cell[1]);
        }
    }

    private static void lowestBits() {
        says("rows of BYTES (lane 0), SHORTS (1), INTS (2) with 0 to 40 CELLS, or nothing (at first).");
        int least = Integer.MIN_VALUE;
        int most = Integer.MAX_VALUE;
        int[][] alike = {{0, 0}, {99, 99}, {100, -1}, {-1, -1}, {127, -1}, {128, -1}, {most, -1}};
        bits(0, alike);
        bits(1, alike);
        bits(2, alike);
        bits(0, new int[][] {{255, -1}, {256, 0}, {355, 99}, {356, -1}, {-156, -1}, {-157, 99}, {-256, 0}, {65536 + 7, 7}, {least, 0},
            {least + 5, 5}, {most - 128, -1}});
        bits(1, new int[][] {{256, -1}, {355, -1}, {32767, -1}, {32768, -1}, {65535, -1}, {65536, 0}, {65635, 99}, {65636, -1},
            {-65536, 0}, {-65437, 99}, {least, 0}, {least + 5, 5}});
        bits(2, new int[][] {{256, -1}, {65536, -1}, {65536 + 7, -1}, {-65536, -1}, {least, -1}, {least + 5, -1}});
    }

    private static void reads() {
        says("n (0 to 40) KEYS are read of a SHEET taken as of a lane, a CELL each from CELL f on, each PUT by CLIENT 0 to its end, one behind another: how many came.");
        LinkTree x = laid("room 2;", 1, 30, 10, 20, 10);
        bounds("read k", 0, 3, k -> x.read(k, 1, 0, 0));
        bounds("read lane", 0, 2, lane -> x.read(0, lane, 0, 0));
        bounds("read n", 0, 40, n -> x.read(1, 1, 0, n));
        due("none", x.read(0, 1, 0, 0) * 10 + x.rule(4), 0);
        due("from cell 1 on, one", x.read(0, 1, 1, 1) * 100 + x.count(4), 110);
        due("all, those that are there too", x.read(0, 1, 0, 4) * 10 + x.torn(), 40);
        due("to their end", tree(x), "0:10 20|20 1 / 0:30|100 - / 1:20>0 100>1|100 -");
        says("(CLIENT 0 is IDLE behind it.)");
        due("idle", whole(x, 0), "0 -2 -2 -2 -2 -2 -2 -2");
        LinkTree y = told("room 4;");
        y.sheet(2, 2, 40);
        for (int i = 0; i < 40; i++) {
            y.lay(2, i, i + 60);
        }
        due("40 of 40", y.read(2, 2, 0, 40) * 100 + y.rule(4), 4040);
    }

    private static void machine() {
        says("What the machine refuses: those ahead came (its FAULT is asked by torn()).");
        LinkTree x = laid("", 0, 5, 6);
        due("index behind the last", x.read(0, 0, 1, 3) * 100 + x.torn() * 10 + x.rule(4), 121);
        due("idle behind it", x.client(0, 0), IDLE);
        due("index of the first", x.read(0, 0, 2, 1) * 10 + x.torn(), 2);
        due("index -1", x.read(0, 0, -1, 2) * 10 + x.torn(), 2);
        due("far", x.read(0, 0, Integer.MAX_VALUE, 40) + x.read(0, 0, Integer.MIN_VALUE, 40), 0);
        due("no more keys", x.rule(4), 1);
        due("just to the last", x.read(0, 0, 0, 2) * 10 + x.torn(), 20);
        for (int lane = 1; lane < 3; lane++) {
            due("cast", x.read(0, lane, 0, 2) * 10 + x.torn(), 3);
            due("cast ahead of index", x.read(0, lane, 9, 2) * 10 + x.torn(), 3);
            due("null", x.read(lane, lane, 0, 2) * 10 + x.torn(), 1);
            due("null ahead of index", x.read(lane, 0, -1, 2) * 10 + x.torn(), 1);
        }
        x.sheet(1, 2, 0);
        due("0 cells, index", x.read(1, 2, 0, 1) * 10 + x.torn(), 2);
        due("0 cells, none", x.read(1, 2, 0, 0) * 10 + x.torn(), 0);
        due("0 cells, cast", x.read(1, 1, 0, 1) * 10 + x.torn(), 3);
    }

    private static void readStates() {
        says("BAD: k, lane, n; STATE: CLIENT 0 is not IDLE, or a NODE is LOCKED;");
        LinkTree x = laid("room 2;put 10 20 30;", 0, 15);
        x.begin(0, PUT, 12);
        for (int state : new int[] {DOWN, DOWN, HOLDS, POSTS, HOLDS_ABOVE, POSTS, DONE}) {
            due("its state", x.client(0, 0), state);
            refusedWith(STATE, "client 0 in state " + state, x, i -> x.read(0, 0, 0, 1));
            refusedWith(STATE, "and none to read", x, i -> x.read(0, 0, 0, 0));
            refusedWith(BAD, "bad fits first", x, i -> x.read(0, 0, 0, 41));
            x.step(0);
        }
        x.drop(0);
        x.begin(1, PUT, 99);
        int[] states = {DOWN, DOWN, DOWN, HOLDS};
        for (int state : states) {
            due("its state", x.client(1, 0), state);
            x.keep(0);
            if (state == DOWN) {
                due("client 1 in state " + state, x.read(0, 0, 0, 1) * 10 + x.there(15), 11);
            } else {
                refusedWith(STATE, "client 1 in state " + state, x, i -> x.read(0, 0, 0, 1));
            }
            x.back(0);
            x.step(1);
        }
        due("done", x.read(0, 0, 0, 1) * 10 + x.there(15), 11);
        LinkTree y = laid("room 2;put 10 20 30;", 0, 40);
        y.begin(2, TAKE, 1);
        y.go(2, 2);
        refusedWith(STATE, "a node is locked", y, i -> y.read(0, 0, 0, 1));
        y.go(2, 60);
        y.begin(2, PUT, 15);
        due("posts", codes(y, 2, 3), "245");
        due("is no lock", y.read(0, 0, 0, 1), 1);
        due("holds above", y.step(2), 4);
        refusedWith(STATE, "is one", y, i -> y.read(0, 0, 0, 1));
    }

    private static void refusedReads() {
        says("-20 less i: the i-th is no KEY, or its ANSWER is FULL: then none came; the first met.");
        LinkTree x = laid("room 2;put 10 20;find 1 5;", 1, 5, 6, 99, 100, -1);
        for (int n = 4; n <= 6; n++) {
            int many = n;
            refusedWith(-23, "the one behind three", x, i -> x.read(0, 1, 0, many));
        }
        refusedWith(-20, "the first", x, i -> x.read(0, 1, 4, 1));
        refusedWith(-21, "the second", x, i -> x.read(0, 1, 2, 40));
        due("those ahead", x.read(0, 1, 0, 3) * 10 + x.rule(4), 35);
        LinkTree y = full();
        due("a full leaf, one with room", act(y, 0, TAKE, 1) * 10 + act(y, 0, TAKE, 24), 11);
        y.sheet(0, 0, 4);
        y.lay(0, 0, 24);
        y.lay(0, 1, 1);
        y.lay(0, 2, 25);
        y.lay(0, 3, -1);
        refusedWith(-22, "its answer is FULL", y, i -> y.read(0, 0, 0, 3));
        refusedWith(-22, "FULL is met ahead of no key", y, i -> y.read(0, 0, 0, 4));
        refusedWith(-22, "FULL is met ahead of an index", y, i -> y.read(0, 0, 0, 5));
        refusedWith(-20, "no key at once", y, i -> y.read(0, 0, 3, 1));
        due("with room", y.read(0, 0, 0, 2) * 10 + y.rule(0), 44);
        refusedWith(-20, "FULL at once", y, i -> y.read(0, 0, 2, 1));
        due("an index ahead of no key", y.read(0, 0, -1, 5), 0);
    }

    private static void torn() {
        says("The FAULT of the latest read() that came to an end; 0.");
        LinkTree x = laid("", 0, 5, 100);
        due("none yet", x.torn(), 0);
        x.read(0, 0, 2, 1);
        due("index", x.torn(), 2);
        due("no key", x.read(0, 0, 0, 2) * 10 + x.torn(), -208);
        due("bad", x.read(4, 0, 0, 0) * 10 + x.torn(), -8);
        x.begin(0, FIND, 1);
        due("state", x.read(0, 0, 0, 0) * 10 + x.torn(), -18);
        x.go(0, 60);
        x.drop(0);
        due("to its end", x.read(0, 0, 0, 1) * 10 + x.torn(), 10);
        due("again 0", x.torn(), 0);
        x.read(2, 0, 0, 1);
        x.lay(3, 0, 0);
        x.sheet(0, 0, -1);
        due("null; no other call changes it", x.torn(), 1);
        x.read(0, 0, 0, 0);
        due("none read", x.torn(), 0);
    }

    private static void counts() {
        says("0 LEAVES, DEAD ones too, 1 IMAGES, 2 bytes on THE TAPE, 3 CELLS of SHEET 0 (NONE: nothing), 4 KEYS that are there, summed, 5 ENTRIES of all NODES that are no LEAVES.");
        LinkTree x = new LinkTree();
        bounds("count", 0, 5, x::count);
        due("at first", "" + x.count(0) + x.count(1) + x.count(2) + x.count(3) + x.count(4) + x.count(5), "100-400");
        LinkTree y = told("room 2;put 10 20 30;take 10 20;");
        due("leaves, the sum, entries", "" + y.count(0) + " " + y.count(4) + " " + y.count(5), "2 30 1");
        LinkTree z = told("put 0 99;");
        due("the sum", z.count(4), 99);
        LinkTree w = full();
        // each NODE but THE ROOT is the CHILD of an ENTRY
        due("of 24 nodes", "" + w.count(0) + " " + w.count(4) + " " + w.count(5), "12 300 23");
        y.sheet(1, 0, 5);
        due("not of sheet 1", y.count(3), NONE);
        y.sheet(0, 0, 0);
        due("0 cells", y.count(3), 0);
        y.sheet(0, 0, 40);
        due("40 cells", y.count(3), 40);
        y.keep(1);
        due("one image", y.count(1), 1);
        for (int i = 0; i < 160; i++) {
            y.feed(0);
        }
        y.feed(0);
        due("a full tape", y.count(2), 160);
    }

    public static void main(String[] args) {
        keeps();
        backs();
        paths();
        sheets();
        lays();
        lowestBits();
        reads();
        machine();
        readStates();
        refusedReads();
        torn();
        counts();
        close("SheetSentencesTest");
    }
}
