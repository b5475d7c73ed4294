/** All ROWS of STEPS, promises 16 to 19: a test for each sentence that names an edge. */
public final class RowSentencesTest extends Sentences {
    /** Three CLIENTS that FIND in a tree of 5 LEVELS: 5 STEPS each. */
    private static LinkTree deep() {
        return told("room 2;put" + numbers(1, 24, 1) + ";find 0 1;find 1 24;find 2 99;");
    }

    /** Three CLIENTS that FIND in a LEAF: a STEP each. */
    private static LinkTree flat() {
        return told("put 5;find 0 5;find 1 6;find 2 5;");
    }

    private static String fraction(LinkTree x, int c, int n, int a) {
        return x.chance(c, n, a, 0) + "/" + x.chance(c, n, a, 1);
    }

    private static void bad() {
        LinkTree x = flat();
        says("ROWS of n STEPS (0 to 7), by themselves: how many there are (what 0)");
        bounds("rows n", 0, 7, n -> x.rows(n, 0));
        bounds("rows what", 0, 4, what -> x.rows(1, what));
        due("rows of both", x.rows(8, 5), BAD);
        says("ROWS of n STEPS (0 to 7): in how many a CLIENT (not IDLE) has the ANSWER a (0, 1) in the end, DONE or not. BAD.");
        bounds("answers c", 0, 2, c -> x.answers(c, 1, 1));
        bounds("answers n", 0, 7, n -> x.answers(0, n, 1));
        bounds("answers a", 0, 1, a -> x.answers(0, 1, a));
        says("The first of ROWS of n STEPS (0 to 7), by CLIENTS from the first STEP on, in which a CLIENT has the ANSWER a (0, 1) in the end");
        bounds("first c", 0, 2, c -> x.first(c, 1, 1));
        bounds("first n", 0, 7, n -> x.first(0, n, 1));
        bounds("first a", 0, 1, a -> x.first(0, 1, a));
        says("By n STEPS (0 to 7), each of one of those that MAY, each as likely: that a CLIENT has the ANSWER a (0, 1) in the end: 0, 1. BAD.");
        bounds("chance c", 0, 2, c -> x.chance(c, 1, 1, 1));
        bounds("chance n", 0, 7, n -> x.chance(0, n, 1, 1));
        bounds("chance a", 0, 1, a -> x.chance(0, 1, a, 1));
        bounds("chance what", 0, 1, what -> x.chance(0, 1, 1, what));
    }

    private static void byThemselves() {
        says("ROWS of n STEPS (0 to 7), by themselves");
        LinkTree x = told("room 2;put 10 20 30;find 2 20;");
        x.begin(0, PUT, 15);
        x.begin(1, TAKE, 10);
        x.go(1, 2);
        for (int n = 0; n <= 7; n++) {
            for (int what = 0; what < 5; what++) {
                String ahead = all(x);
                x.rows(n, what);
                x.answers(0, n, 1);
                x.first(1, n, 1);
                x.chance(2, n, 0, 1);
                due("what stands behind rows " + n + " " + what, all(x), ahead);
            }
        }
    }

    private static void howMany() {
        says("ROWS of n STEPS: all ways in which n times a CLIENT that MAY STEP does so, or fewer times, if none may any more.");
        LinkTree none = new LinkTree();
        due("nobody may", none.rows(0, 0) * 10 + none.rows(7, 0), 11);
        LinkTree x = flat();
        int[] ways = {1, 3, 6, 6, 6, 6, 6, 6};
        for (int n = 0; n <= 7; n++) {
            due("one step each, rows of " + n, x.rows(n, 0), ways[n]);
        }
        // 7 STEPS, none makes more than 5: not those of 6 and 1 (3 * 2 * 7), not those of 7 (3)
        due("the most steps", deep().rows(7, 0), 2187 - 42 - 3);
        due("rows of 5", deep().rows(5, 0), 243);
        LinkTree y = told("put 5;");
        y.begin(0, PUT, 6);
        y.begin(1, PUT, 7);
        // whoever holds the LEAF first goes on alone, till it is free
        due("locked: rows of 2", y.rows(2, 0), 2);
        due("locked: rows of 3", y.rows(3, 0), 2);
        due("locked: rows of 7", y.rows(7, 0), 2);
        due("locked: done", y.rows(4, 1) * 10 + y.rows(3, 1), 20);
    }

    private static void what1() {
        says("in how many all CLIENTS but IDLE ones are DONE in the end (1)");
        LinkTree none = new LinkTree();
        due("all idle", none.rows(0, 1) * 10 + none.rows(7, 1), 11);
        LinkTree x = flat();
        due("not yet", x.rows(2, 1), 0);
        due("just so", x.rows(3, 1), 6);
        x.go(0, 60);
        due("one is done", x.rows(2, 1) * 10 + x.rows(1, 1), 20);
        x.drop(0);
        due("one is idle", x.rows(2, 1) * 10 + x.rows(1, 1), 20);
        x.go(1, 60);
        x.go(2, 60);
        due("all are done", x.rows(0, 1), 1);
        LinkTree y = told("room 2;put 10 20;");
        y.begin(0, PUT, 30);
        due("posts is not done", y.rows(2, 1) * 10 + y.rows(3, 1), 1);
    }

    /** The way up goes by the PATH, which a ROW takes over from what stands. */
    private static void rowsByPaths() {
        says("AT becomes PATH of the LEVEL above, or, is that none, THE ROOT.");
        LinkTree x = told("room 2;put 10 20 30 40 50;");
        x.begin(1, PUT, 15);
        x.go(1, 2);
        due("splits on three levels and a new root in 7 steps", x.rows(7, 1) * 10 + x.rows(6, 1), 10);
        due("first", x.first(1, 7, 1), 11111111);
        due("by hand", codes(x, 1, 8), "45454570");
    }

    private static void what2() {
        says("the most NODES in the end of any (2)");
        LinkTree x = told("room 2;put 10 20;");
        x.begin(0, PUT, 30);
        due("one leaf", x.rows(0, 2) * 10 + x.rows(1, 2), 11);
        due("split", x.rows(2, 2), 2);
        due("posted", x.rows(3, 2) * 10 + x.rows(7, 2), 33);
        x.begin(1, FIND, 10);
        due("in any", x.rows(2, 2), 2);
        LinkTree full = deep();
        due("24", full.rows(7, 2), 24);
    }

    private static void what3() {
        says("the most STEPS to a RIGHT of all, made in any (3)");
        LinkTree x = told("room 2;put 10 20;");
        x.begin(0, PUT, 30);
        due("none", x.rows(7, 3), 0);
        x.go(0, 2);
        x.begin(1, FIND, 30);
        x.begin(2, FIND, 21);
        due("of all", x.rows(7, 3) * 10 + x.rows(2, 3), 22);
        due("of a row of 1", x.rows(1, 3) * 10 + x.rows(0, 3), 10);
        x.step(1);
        due("made in it, not ahead", x.rows(7, 3), 1);
        LinkTree y = told("room 2;put 10 20 30 40;");
        y.begin(0, PUT, 50);
        y.go(0, 3);
        act(y, 1, PUT, 15);
        due("of posts too", y.rows(7, 3), 1);
    }

    /** KEY 7 is in a LEAF that nobody comes to any more: who FINDS it is told a 0 that was true at no moment. */
    private static LinkTree lost() {
        LinkTree x = told("room 2;put 10 20 30;");
        x.begin(0, PUT, 5);
        due("a split", codes(x, 0, 3), "245");
        act(x, 1, TAKE, 5);
        x.begin(1, TAKE, 10);
        due("a death", codes(x, 1, 3), "246");
        act(x, 2, PUT, 10);
        act(x, 2, PUT, 7);
        due("an entry goes", codes(x, 1, 2), "48");
        due("the first split is posted late", codes(x, 0, 3), "480");
        due("there, and lost", x.there(7) * 10 + x.check(), 16);
        return x;
    }

    private static void what4() {
        says("in how many a CLIENT that is DONE in the end had an ANSWER 0 or 1 of FIND that it has not SEEN (4). BAD.");
        due("none", flat().rows(7, 4), 0);
        for (int c = 0; c < 3; c++) {
            LinkTree any = lost();
            any.begin(c, FIND, 7);
            due("of client " + c, any.rows(3, 4) * 10 + any.rows(2, 4), 10);
        }
        LinkTree x = told("put 5;find 1 5;");
        x.begin(0, TAKE, 5);
        due("each was true at some moment", x.rows(7, 4), 0);
        LinkTree y = lost();
        y.begin(1, FIND, 7);
        due("not done yet", y.rows(2, 4), 0);
        due("done", y.rows(3, 4) * 10 + y.rows(7, 4), 11);
        y.begin(2, FIND, 7);
        // 4 STEPS of two, none makes more than 3: in 8 of 14 one of them makes 3
        due("of two", y.rows(4, 0) * 100 + y.rows(4, 4), 1408);
        due("of two, each row once", y.rows(7, 0) * 100 + y.rows(7, 4), 2020);
        y.go(1, 60);
        due("done ahead", y.rows(0, 4), 1);
        y.drop(1);
        due("idle", y.rows(0, 4), 0);
        LinkTree z = lost();
        z.begin(2, TAKE, 7);
        due("of TAKE", z.go(2, 60) * 100 + z.client(2, 5) * 10 + z.client(2, 4), 420);
        due("is no ANSWER of FIND", z.rows(0, 4), 0);
    }

    private static void answers() {
        says("in how many a CLIENT (not IDLE) has the ANSWER a (0, 1) in the end, DONE or not.");
        LinkTree x = deep();
        // all 5 STEPS of it among 7, the others of two CLIENTS
        due("of 7", x.answers(0, 7, 1) + " " + x.answers(1, 7, 1) + " " + x.answers(2, 7, 0), "84 84 84");
        due("the other answer", x.answers(0, 7, 0) + x.answers(1, 7, 0) + x.answers(2, 7, 1), 0);
        due("just so", x.answers(0, 5, 1) * 10 + x.answers(0, 4, 1), 10);
        due("of 0", x.answers(0, 0, 0) + x.answers(0, 0, 1), 0);
        LinkTree y = told("room 2;put 10 20;");
        y.begin(0, PUT, 30);
        due("ahead of the split", y.answers(0, 1, 1), 0);
        due("posts, not done", y.answers(0, 2, 1), 1);
        y.go(0, 2);
        due("posts already", y.answers(0, 0, 1), 1);
        y.go(0, 60);
        due("done already", y.answers(0, 0, 1) * 10 + y.answers(0, 7, 1), 11);
        y.drop(0);
        due("idle", y.answers(0, 0, 1) + y.answers(0, 7, 1) + y.answers(0, 7, 0), 0);
        LinkTree z = told("room 2;put" + numbers(1, 24, 1) + ";");
        z.begin(1, PUT, 25);
        z.go(1, 60);
        due("FULL is neither", z.client(1, 4) + " " + z.answers(1, 0, 0) + z.answers(1, 0, 1), "-3 00");
    }

    private static void firsts() {
        says("told as a number that is 1 at first, and with each STEP 10 times as much and its CLIENT. BAD; NONE: in none.");
        LinkTree x = deep();
        due("of 7", x.first(0, 7, 1) + " " + x.first(1, 7, 1) + " " + x.first(2, 7, 0), "10000011 10011111 10022222");
        due("of 5", x.first(0, 5, 1) + " " + x.first(1, 5, 1) + " " + x.first(2, 5, 0), "100000 111111 122222");
        due("in none", x.first(0, 4, 1) + x.first(0, 7, 0) + x.first(2, 7, 1), 3 * NONE);
        due("of 0", x.first(0, 0, 1), NONE);
        LinkTree y = flat();
        due("fewer than 7", y.first(0, 7, 1) + " " + y.first(1, 7, 0) + " " + y.first(2, 7, 1), "1012 1012 1012");
        due("of 2", y.first(0, 2, 1) + " " + y.first(1, 2, 0) + " " + y.first(2, 2, 1), "101 101 102");
        due("of 1", y.first(0, 1, 1) + " " + y.first(1, 1, 0) + " " + y.first(2, 1, 1), "10 11 12");
        LinkTree z = told("put 5;find 1 6;");
        z.begin(0, PUT, 6);
        due("put ahead", z.first(1, 7, 1), 1001);
        due("put behind", z.first(1, 7, 0), 1010);
        z.go(1, 60);
        due("at once", z.first(1, 0, 0), 1);
        due("at once, and the rest", z.first(1, 7, 0), 100);
        z.drop(1);
        due("idle", z.first(1, 7, 0), NONE);
        due("bad fits ahead of none", z.first(1, 8, 0), BAD);
    }

    private static void chances() {
        says("By n STEPS (0 to 7), each of one of those that MAY, each as likely: that a CLIENT has the ANSWER a (0, 1) in the end: 0, 1.");
        LinkTree x = deep();
        // its 5th STEP is the 5th, 6th or 7th: 1/243 * (1, and 5 * 2/3, and 15 * 4/9)
        due("of 7", fraction(x, 0, 7, 1) + " " + fraction(x, 1, 7, 1) + " " + fraction(x, 2, 7, 0), "11/243 11/243 11/243");
        due("of 6", fraction(x, 0, 6, 1), "13/729");
        due("of 5", fraction(x, 0, 5, 1), "1/243");
        LinkTree y = told("put 5;find 1 6;");
        y.begin(0, PUT, 6);
        due("put behind", fraction(y, 1, 1, 0) + " " + fraction(y, 1, 2, 0) + " " + fraction(y, 1, 7, 0), "1/2 3/4 3/4");
        due("put ahead", fraction(y, 1, 2, 1) + " " + fraction(y, 1, 3, 1) + " " + fraction(y, 1, 7, 1), "0/1 1/4 1/4");
        LinkTree z = told("put 5;");
        z.begin(0, PUT, 6);
        z.begin(2, PUT, 7);
        due("who waits may not", fraction(z, 0, 2, 1) + " " + fraction(z, 0, 3, 1) + " " + fraction(z, 0, 4, 1), "1/2 1/2 1/1");
        says("Fractions are in lowest terms, the denominator above 0 (0 is 0 by 1).");
        due("none", fraction(x, 0, 4, 1) + " " + fraction(x, 0, 0, 0) + " " + fraction(x, 0, 7, 0), "0/1 0/1 0/1");
        LinkTree w = flat();
        due("of 2 of 3", fraction(w, 1, 2, 0) + " " + fraction(w, 1, 1, 0) + " " + fraction(w, 1, 3, 0), "2/3 1/3 1/1");
        w.go(1, 60);
        due("done already", fraction(w, 1, 0, 0) + " " + fraction(w, 1, 7, 0), "1/1 1/1");
        w.drop(1);
        due("idle", fraction(w, 1, 7, 0), "0/1");
    }

    public static void main(String[] args) {
        bad();
        byThemselves();
        howMany();
        what1();
        rowsByPaths();
        what2();
        what3();
        what4();
        answers();
        firsts();
        chances();
        close("RowSentencesTest");
    }
}
