/** STEPS of CLIENTS by their STATES, promises 11 to 15: a test for each sentence that names an edge. */
public final class StepSentencesTest extends Sentences {
    /** LEAVES 10 20 and 30 below a ROOT, each NODE at most 2. */
    private static LinkTree three() {
        return told("room 2;put 10 20 30;");
    }

    /** THE ROOT is a LEAF 10 20 that has been split by CLIENT 0, its right one is 30; the split is not posted. */
    private static LinkTree beside() {
        LinkTree x = told("room 2;put 10 20;");
        x.begin(0, PUT, 30);
        due("to the split", codes(x, 0, 2), "45");
        return x;
    }

    private static String answered(LinkTree x, int c, int act, int key, int steps) {
        x.begin(c, act, key);
        String told = codes(x, c, steps);
        return told + " " + x.client(c, 4);
    }

    private static void begins() {
        says("A CLIENT begins an ACT with a KEY (0 to 99), DOWN, AT THE ROOT, with no ANSWER, no PATH: its STATE ahead of it.");
        bounds("begin c", 0, 2, c -> new LinkTree().begin(c, FIND, 1));
        bounds("begin act", 0, 2, act -> new LinkTree().begin(1, act, 1));
        bounds("begin key", 0, 99, key -> new LinkTree().begin(1, PUT, key));
        LinkTree x = three();
        due("from idle", x.begin(1, TAKE, 99), IDLE);
        due("begun", whole(x, 1), "1 2 99 2 -4 1 0 0");
        x.go(1, 60);
        due("from done", x.begin(1, FIND, 20), DONE);
        due("anew", whole(x, 1), "1 0 20 2 -4 2 0 0");
        refusedWith(BAD, "a bad client", x, i -> x.begin(3, FIND, 1));
        refusedWith(BAD, "a bad act", x, i -> x.begin(0, 3, 1));
        refusedWith(BAD, "a bad key", x, i -> x.begin(0, FIND, 100));
        says("BAD; STATE: it is DOWN, HOLDS or POSTS.");
        refusedWith(STATE, "down", x, i -> x.begin(1, PUT, 1));
        x.begin(2, PUT, 15);
        int[] states = {DOWN, DOWN, HOLDS, POSTS, HOLDS_ABOVE, POSTS};
        for (int state : states) {
            due("its state", x.client(2, 0), state);
            refusedWith(STATE, "in state " + state, x, i -> x.begin(2, FIND, 1));
            refusedWith(BAD, "bad fits first in state " + state, x, i -> x.begin(2, FIND, -1));
            x.step(2);
        }
        due("done at last", x.begin(2, FIND, 15), DONE);
    }

    private static void noPath() {
        says("with no ANSWER, no PATH");
        LinkTree x = told("room 2;put 1 2 3 4 5;");
        feedAll(x, "room 2;put 1 2;");
        x.text();
        x.begin(0, PUT, 3);
        due("a split of the root", codes(x, 0, 2), "45");
        due("at the root, as there is no path", x.client(0, 3), 0);
        LinkTree y = told("room 2;put 1 2;");
        y.keep(0);
        act(y, 0, PUT, 3);
        act(y, 0, PUT, 4);
        y.begin(0, FIND, 4);
        y.go(0, 1);
        y.back(0);
        y.begin(0, PUT, 0);
        due("again", codes(y, 0, 2) + y.client(0, 3), "450");
    }

    private static void nothing() {
        says("IDLE, DONE: nothing (0).");
        LinkTree x = three();
        bounds("step", 0, 2, x::step);
        refusedWith(0, "idle", x, i -> x.step(0));
        x.begin(0, FIND, 10);
        x.go(0, 60);
        refusedWith(0, "done", x, i -> x.step(0));
        refusedWith(BAD, "no such client", x, i -> x.step(3));
    }

    private static void downRight() {
        says("DOWN: is AT DEAD, or KEY above its HIGH: AT becomes its RIGHT (1).");
        due("key as its high", answered(beside(), 1, FIND, 20, 1), "3 1");
        due("key one above its high", answered(beside(), 1, FIND, 21, 2), "13 0");
        due("key to the right", answered(beside(), 1, FIND, 30, 2), "13 1");
        due("key 99", answered(beside(), 1, FIND, 99, 2), "13 0");
        LinkTree x = beside();
        act(x, 1, TAKE, 10);
        due("the left leaf dies", answered(x, 1, TAKE, 20, 2), "46 1");
        due("past the dead one, though no key is above its high", answered(x, 2, FIND, 0, 2), "13 0");
        due("puts too", answered(x, 2, PUT, 0, 3), "143 1");
        due("and it is there", shapes(x, 0, 1), "0:|20 1 x / 0:0 30|100 -");
    }

    private static void downChild() {
        says("Else, is it no LEAF: PATH of its LEVEL is it, AT becomes the CHILD of the first ENTRY whose KEY is no less (2).");
        int[] keys = {0, 19, 20, 21, 99};
        int[] leaves = {0, 0, 0, 1, 1};
        for (int i = 0; i < keys.length; i++) {
            LinkTree x = three();
            x.begin(1, PUT, keys[i]);
            due("child for " + keys[i], x.step(1) * 10 + x.client(1, 3), 20 + leaves[i]);
        }
        LinkTree x = told("room 2;put 10 20 30 40 50;");
        x.begin(1, PUT, 15);
        due("down two levels to the split", codes(x, 1, 4), "2245");
        due("at the path of level 1", x.client(1, 3), 2);
        due("splits above", codes(x, 1, 2), "45");
        due("at the path of level 2", x.client(1, 3), 5);
    }

    private static void downLeaf() {
        says("Else of FIND: ANSWER is 1, if KEY is there, else 0; DONE (3). Else, is it LOCKED: nothing (0); else it HOLDS it (4).");
        due("in an empty leaf", answered(new LinkTree(), 0, FIND, 0, 2), "30 0");
        due("there", answered(three(), 0, FIND, 10, 3), "230 1");
        due("not there", answered(three(), 0, FIND, 11, 3), "230 0");
        LinkTree x = three();
        x.begin(0, PUT, 5);
        x.go(0, 2);
        due("find in a locked leaf", answered(x, 1, FIND, 10, 2), "23 1");
        due("put waits", answered(x, 1, PUT, 10, 3), "200 -4");
        due("take waits", answered(x, 2, TAKE, 10, 3), "200 -4");
        x.step(0);
        due("free again", x.step(2), 4);
        due("not for both", x.step(1), 0);
        LinkTree y = three();
        y.begin(0, TAKE, 30);
        y.go(0, 2);
        due("a leaf beside it", answered(y, 1, PUT, 10, 3), "243 0");
    }

    private static void holdsPut() {
        says("HOLDS (PUT): KEY is there: ANSWER 0, DONE (3). There is room: it is put, ANSWER 1, DONE (3).");
        due("there in a full leaf", answered(three(), 1, PUT, 20, 4), "2430 0");
        due("nothing came", three().rule(4), 3);
        for (int room = 2; room <= 4; room++) {
            LinkTree x = told("room " + room + ";");
            for (int i = 0; i < room; i++) {
                due("room " + room + " key " + i, answered(x, 0, PUT, 50 - i, 3), "430 1");
            }
            due("a full leaf", x.node(0, 1) * 10 + x.rule(0), room * 10 + 1);
            due("one more", answered(x, 0, PUT, 60, 2), "45 1");
            due("posts", x.client(0, 0) * 10 + x.rule(0), 32);
        }
        due("the least and the greatest key", tree(told("put 99 0 50;")), "0:0 50 99|100 -");
    }

    private static void splits() {
        says("a new NODE of its LEVEL has the greater half of KEYS, ENTRIES (the lesser half is the longer one, if they are odd), its HIGH, its RIGHT;");
        due("3 keys, least", tree(told("room 2;put 20 30 10;")), "0:10 20|20 1 / 0:30|100 - / 1:20>0 100>1|100 -");
        due("3 keys, middle", tree(told("room 2;put 10 30 20;")), "0:10 20|20 1 / 0:30|100 - / 1:20>0 100>1|100 -");
        due("3 keys, greatest", tree(told("room 2;put 10 20 30;")), "0:10 20|20 1 / 0:30|100 - / 1:20>0 100>1|100 -");
        due("4 keys", tree(told("room 3;put 10 20 40 30;")), "0:10 20|20 1 / 0:30 40|100 - / 1:20>0 100>1|100 -");
        due("5 keys", tree(told("room 4;put 10 20 40 50 30;")), "0:10 20 30|30 1 / 0:40 50|100 - / 1:30>0 100>1|100 -");
        says("its RIGHT is the new one then, its HIGH the greatest KEY that it keeps: that is what is to POST, for the new NODE.");
        LinkTree x = three();
        x.begin(0, PUT, 15);
        due("to the split", codes(x, 0, 3), "245");
        due("between", shapes(x, 0, 3, 1), "0:10 15|15 3 / 0:20|20 1 / 0:30|100 -");
        due("first beside", shape(x, 2), "1:20>0 100>1|100 -");
        says("AT becomes PATH of the LEVEL above, or, is that none, THE ROOT.");
        due("at its path", x.client(0, 3), 2);
        due("at the root", beside().client(0, 3), 0);
        due("3 entries", codes(x, 0, 2), "45");
        due("above", shapes(x, 2, 4), "1:15>0 20>3|20 4 / 1:100>1|100 -");
        due("at the root above", x.client(0, 3), 2);
        LinkTree y = told("room 3;put" + numbers(1, 8, 1) + ";");
        due("4 entries", shapes(y, 2, 5, 6), "1:2>0 4>1|4 5 / 1:6>3 100>4|100 - / 2:4>2 100>5|100 -");
        LinkTree z = told("room 4;put" + numbers(1, 14, 1) + ";");
        due("5 entries", shapes(z, 2, 6, 7), "1:3>0 6>1 9>3|9 6 / 1:12>4 100>5|100 - / 2:9>2 100>6|100 -");
    }

    private static void holdsTake() {
        says("(TAKE): KEY is not there: ANSWER 0, DONE (3).");
        due("in an empty leaf", answered(new LinkTree(), 0, TAKE, 0, 3), "430 0");
        due("in a full one", answered(three(), 0, TAKE, 15, 4), "2430 0");
        says("is the LEAF empty then, and has it a RIGHT, it is DEAD, what is to POST is its HIGH, AT becomes PATH of LEVEL 1, or, is that none, THE ROOT; POSTS (6); else DONE (3).");
        due("one is left", answered(three(), 0, TAKE, 10, 4), "2430 1");
        LinkTree x = three();
        due("the last of the last leaf", answered(x, 0, TAKE, 30, 4), "2430 1");
        due("is not dead", shape(x, 1), "0:|100 -");
        due("the only leaf", answered(told("put 5;"), 0, TAKE, 5, 3), "430 1");
        act(x, 0, TAKE, 10);
        due("the last of a leaf with a right", answered(x, 0, TAKE, 20, 3), "246 1");
        due("is dead", shape(x, 0), "0:|20 1 x");
        due("posts at its path", whole(x, 0), "3 2 20 2 1 3 3 0");
        LinkTree y = beside();
        act(y, 1, TAKE, 10);
        due("dies with no path", answered(y, 1, TAKE, 20, 2) + y.client(1, 3), "46 10");
    }

    private static void postsToNewRoot() {
        says("is THE ROOT below that LEVEL: of a dead one, or are there 24 NODES: DONE (3); else a new NODE of that LEVEL with the ENTRIES MID, the old ROOT, and 100, the new one of the split, is THE ROOT, HIGH 100, no RIGHT, DONE (7).");
        LinkTree x = beside();
        act(x, 1, TAKE, 10);
        due("of a dead one", answered(x, 1, TAKE, 20, 4), "4630 1");
        due("no node is made", x.rule(0), 2);
        due("of a split", codes(x, 0, 2), "70");
        due("the root", x.rule(1) + " " + shape(x, 2) + " " + x.client(0, 4), "2 1:20>0 100>1|100 - 1");
        LinkTree y = beside();
        act(y, 1, PUT, 40);
        due("a leaf to the right is split", answered(y, 1, PUT, 50, 3), "145 1");
        due("the later split posts first", y.step(1), 7);
        due("its entries", shape(y, 3), "1:40>0 100>2|100 -");
    }

    /** 40 even KEYS in NODES of at most 4 (18 NODES), and splits to the left that need no more than one NODE each. */
    private static LinkTree nearlyFull(int more) {
        LinkTree x = told("room 4;put" + numbers(2, 80, 2) + ";");
        due("18 nodes", x.rule(0), 18);
        for (int i = 0; i < more; i++) {
            act(x, 1, PUT, 18 * i + 1);
            act(x, 1, PUT, 18 * i + 3);
        }
        due("nodes", x.rule(0), 18 + more);
        return x;
    }

    private static void rootsOf24() {
        says("or are there 24 NODES: DONE (3); else a new NODE of that LEVEL");
        LinkTree x = nearlyFull(2);
        due("the root is the 24th", answered(x, 0, PUT, 82, 10), "2245454570 1");
        due("nodes, root, its level", "" + x.rule(0) + " " + x.rule(1) + " " + x.rule(2), "24 23 3");
        due("above", shapes(x, 7, 22, 23), "2:18>2 36>6 54>11|54 22 / 2:72>15 100>21|100 - / 3:54>7 100>22|100 -");
        LinkTree y = nearlyFull(3);
        due("no root can be made", answered(y, 0, PUT, 82, 10), "2245454530 1");
        due("nodes, root, its level", "" + y.rule(0) + " " + y.rule(1) + " " + y.rule(2), "24 7 2");
        due("beside it", shapes(y, 7, 23), "2:18>2 36>6 54>11|54 23 / 2:72>15 100>22|100 -");
        due("it is found to the right", answered(y, 0, FIND, 82, 4) + " " + y.client(0, 7), "1223 1 1");
        due("all holds", y.check(), 0);
    }

    private static void postsDown() {
        says("Else, is AT below that LEVEL: AT becomes THE ROOT (9).");
        LinkTree x = beside();
        act(x, 1, PUT, 40);
        due("a root comes", answered(x, 1, PUT, 50, 5), "14570 1");
        due("to the root, hold, split, new root", codes(x, 0, 5), "94570");
        due("posted", shapes(x, 3, 4, 5), "1:20>0 40>1|40 4 / 1:100>2|100 - / 2:40>3 100>4|100 -");
        says("Else, is its LEVEL above that one: AT becomes the CHILD of the first ENTRY whose KEY is no less than MID (2).");
        LinkTree y = beside();
        act(y, 1, PUT, 40);
        act(y, 1, PUT, 50);
        act(y, 1, PUT, 60);
        act(y, 1, PUT, 70);
        due("a root of level 2", shapes(y, 3, 5, 6), "1:40>0 60>2|60 5 / 1:100>4|100 - / 2:60>3 100>5|100 -");
        due("to the root, down, hold", codes(y, 0, 3), "924");
        due("at the child for 20", y.client(0, 3), 3);
        due("splits, holds the root, splits it, new root", codes(y, 0, 4), "5457");
        due("posted", shapes(y, 3, 6), "1:20>0 40>1|40 7 / 2:40>3 60>7|60 8");
    }

    private static void postsRight() {
        says("Else, is MID above the HIGH of AT: AT becomes its RIGHT (1).");
        LinkTree x = told("room 2;put 10 20 30 40;");
        x.begin(0, PUT, 50);
        due("to the split", codes(x, 0, 3), "245");
        act(x, 1, PUT, 15);
        due("its node is split meanwhile", shapes(x, 2, 5), "1:15>0 20>4|20 5 / 1:100>1|100 -");
        due("right, hold, posted", codes(x, 0, 4), "1480");
        due("rights", x.client(0, 7), 1);
        due("above", shape(x, 5), "1:40>1 100>3|100 -");
        LinkTree y = told("room 2;put 10 20 30 40 50;take 30;");
        due("MID as its HIGH stays", answered(y, 0, TAKE, 40, 7), "2246430 1");
        says("Else, is it LOCKED: nothing (0); else it HOLDS it ABOVE (4).");
        LinkTree z = three();
        z.begin(0, PUT, 15);
        z.go(0, 3);
        act(z, 1, PUT, 40);
        z.begin(1, PUT, 50);
        due("a second one holds above", codes(z, 1, 4), "2454");
        due("locked above", codes(z, 0, 2), "00");
        due("no step", z.client(0, 6), 3);
        z.step(1);
        due("as soon as it does not hold it", codes(z, 0, 1), "4");
        LinkTree w = told("room 2;put 10 20 30 40 50;take 30;");
        w.begin(0, TAKE, 40);
        w.begin(1, PUT, 15);
        due("a death with MID as the HIGH above", codes(w, 0, 4), "2246");
        due("another holds it above", codes(w, 1, 5), "22454");
        due("locked", codes(w, 0, 1) + w.rule(7), "02");
    }

    private static void holdsAboveSplit() {
        says("of a split: the first ENTRY whose KEY is no less than MID; is that KEY MID: nothing is posted, DONE (3).");
        LinkTree x = three();
        x.begin(0, PUT, 5);
        due("a split with MID 10", codes(x, 0, 3), "245");
        act(x, 1, TAKE, 5);
        act(x, 1, TAKE, 10);
        act(x, 2, PUT, 10);
        due("another split with MID 10", answered(x, 2, PUT, 7, 7), "2145457 1");
        due("above", shape(x, 2), "1:10>0 20>4|20 5");
        due("nothing is posted", codes(x, 0, 3), "430");
        due("above as it was", shape(x, 2), "1:10>0 20>4|20 5");
        says("Else an ENTRY MID with its CHILD comes ahead of it, and its CHILD becomes the new NODE: there are no more than ROOM: DONE (8).");
        LinkTree y = told("room 3;put 10 20 30 40;");
        due("two entries", shape(y, 2), "1:20>0 100>1|100 -");
        act(y, 0, PUT, 15);
        due("posted to the left", answered(y, 0, PUT, 12, 6), "245480 1");
        due("three entries", shape(y, 2), "1:12>0 20>3 100>1|100 -");
        act(y, 0, PUT, 35);
        due("a fourth splits it", answered(y, 0, PUT, 37, 7), "2454570 1");
        due("above", shapes(y, 2, 5), "1:12>0 20>3|20 5 / 1:35>1 100>4|100 -");
    }

    private static void aboveOf24() {
        says("Else, are there 24 NODES: it is as it was, DONE (3); else it SPLITS, with these (5); POSTS.");
        LinkTree x = told("room 3;put" + numbers(1, 27, 1) + ";");
        due("23 nodes", x.rule(0) + " " + shape(x, 20), "23 1:22>18 24>19 100>22|100 -");
        due("the leaf's half is the 24th", answered(x, 0, PUT, 28, 8), "22245430 1");
        due("24 nodes", x.rule(0) + " " + shapes(x, 20, 22, 23), "24 1:22>18 24>19 100>22|100 - / 0:25 26|26 23 / 0:27 28|100 -");
        due("found to the right", answered(x, 0, FIND, 28, 5), "22213 1");
        LinkTree y = told("room 3;put" + numbers(2, 54, 2) + ";");
        act(y, 0, PUT, 1);
        due("23 nodes", y.rule(0), 23);
        due("with 24 nodes, no more than room", answered(y, 0, PUT, 3, 8), "22245480 1");
        due("posted", y.rule(0) + " " + shape(y, 2), "24 1:2>0 4>23 8>1|8 5");
        says("There are 24 NODES: ANSWER FULL, DONE (3). Else it SPLITS, with KEY in it (5); ANSWER 1; POSTS.");
        String ahead = tree(y);
        due("a full leaf", shape(y, 1), "0:6 8|8 3");
        act(y, 0, PUT, 5);
        due("there is room", shape(y, 1), "0:5 6 8|8 3");
        due("there is none", answered(y, 0, PUT, 7, 6), "222430 -3");
        due("its answer", y.drop(0), FULL);
        due("it is there", answered(y, 0, PUT, 8, 6), "222430 0");
        due("nothing came", tree(y), ahead.replace("0:6 8|8 3", "0:5 6 8|8 3"));
    }

    private static void holdsAboveDead() {
        says("Of a dead one: that ENTRY goes, if its KEY is MID, its CHILD is that dead one, and it is not the last; DONE (8, else 3).");
        LinkTree x = told("room 2;put 10 20 30;take 10;");
        due("it goes", answered(x, 0, TAKE, 20, 6), "246480 1");
        due("one entry is left", shape(x, 2), "1:100>1|100 -");
        LinkTree y = three();
        y.begin(0, PUT, 5);
        y.go(0, 3);
        act(y, 1, TAKE, 5);
        due("its KEY is not MID", answered(y, 1, TAKE, 10, 6), "246430 1");
        due("above", shape(y, 2), "1:20>0 100>1|100 -");
        LinkTree z = three();
        z.begin(0, PUT, 5);
        z.go(0, 3);
        due("another child", answered(z, 1, TAKE, 20, 7), "2146430 1");
        due("above", shapes(z, 2, 3), "1:20>0 100>1|100 - / 0:|20 1 x");
        LinkTree w = told("room 2;put 10 20 30 40 50;take 30;");
        due("it is the last", answered(w, 0, TAKE, 40, 7), "2246430 1");
        due("above", shape(w, 2), "1:20>0 40>1|40 4");
    }

    private static void seen() {
        says("SEEN by a CLIENT: since it began, in some moment (when it began, behind each STEP of any up to its end that was not nothing), its KEY was there (bit 1), was not (bit 0).");
        LinkTree x = told("put 5;");
        x.begin(1, FIND, 5);
        x.begin(2, FIND, 6);
        due("when it began", x.client(1, 5) * 10 + x.client(2, 5), 21);
        x.begin(0, PUT, 6);
        x.step(0);
        due("a lock is no change", x.client(2, 5), 1);
        x.step(0);
        due("behind its step", x.client(2, 5) * 10 + x.client(0, 5), 33);
        due("the other key", x.client(1, 5), 2);
        x.go(1, 60);
        act(x, 0, TAKE, 5);
        due("not behind its end", x.client(1, 5), 2);
        x.begin(1, FIND, 5);
        due("anew", x.client(1, 5), 1);
        x.sheet(0, 0, 1);
        x.lay(0, 0, 5);
        x.read(0, 0, 0, 1);
        due("steps of read too", x.client(1, 5), 3);
        LinkTree y = told("room 2;put 10 20;");
        y.begin(1, FIND, 20);
        y.begin(0, PUT, 5);
        y.go(0, 60);
        due("it is moved by a split", shapes(y, 0, 1), "0:5 10|10 1 / 0:20|100 -");
        due("and was there all the time", y.client(1, 5), 2);
        y.begin(2, TAKE, 20);
        y.go(2, 60);
        due("taken", y.client(2, 5) * 10 + y.client(1, 5), 33);
        LinkTree z = told("put 5;");
        z.begin(0, PUT, 5);
        z.go(0, 60);
        due("put what was there", z.client(0, 5), 2);
    }

    private static void goes() {
        says("STEPS of a CLIENT, n at most (0 to 60), till it is DONE or makes nothing: how many (not nothing). BAD.");
        bounds("go c", 0, 2, c -> new LinkTree().go(c, 1));
        bounds("go n", 0, 60, n -> new LinkTree().go(0, n));
        LinkTree x = three();
        due("idle", x.go(0, 60), 0);
        x.begin(0, PUT, 15);
        refusedWith(0, "none", x, i -> x.go(0, 0));
        refusedWith(BAD, "too many", x, i -> x.go(0, 61));
        refusedWith(BAD, "too few", x, i -> x.go(0, -1));
        due("one", x.go(0, 1) * 10 + x.client(0, 6), 11);
        x.begin(1, TAKE, 10);
        due("to a lock", x.go(0, 1), 1);
        due("till nothing", x.go(1, 60) * 10 + x.client(1, 6), 11);
        due("nothing", x.go(1, 60), 0);
        due("till done", x.go(0, 60) * 10 + x.client(0, 6), 46);
        due("done", x.go(0, 60), 0);
        x.begin(0, FIND, 10);
        due("just to its end", x.go(0, 3) * 10 + x.client(0, 0), 35);
    }

    private static void drops() {
        says("A CLIENT that is DONE is IDLE: its ANSWER. BAD; STATE: it is not DONE.");
        LinkTree x = three();
        bounds("drop", 0, 2, x::drop);
        refusedWith(STATE, "idle", x, i -> x.drop(0));
        x.begin(0, PUT, 15);
        for (int state : new int[] {DOWN, DOWN, HOLDS, POSTS, HOLDS_ABOVE, POSTS}) {
            refusedWith(STATE, "in state " + state, x, i -> x.drop(0));
            due("its state", x.client(0, 0), state);
            x.step(0);
        }
        due("done with 1", x.drop(0), 1);
        refusedWith(STATE, "dropped", x, i -> x.drop(0));
        due("0", act(x, 0, FIND, 16), 0);
        refusedWith(BAD, "no such client", x, i -> x.drop(-1));
    }

    private static void rooms() {
        says("ROOM becomes v (2 to 4): what it was. BAD; STATE: a NODE has more KEYS, ENTRIES than v.");
        LinkTree x = new LinkTree();
        bounds("room", 2, 4, x::room);
        LinkTree y = told("room 4;put 1 2 3;");
        refusedWith(STATE, "3 keys, room 2", y, i -> y.room(2));
        refusedWith(BAD, "bad fits first", y, i -> y.room(1));
        refusedWith(BAD, "too much", y, i -> y.room(5));
        due("3 keys, room 3", y.room(3) * 10 + y.rule(3), 43);
        due("the same", y.room(3), 3);
        due("more", y.room(4), 3);
        act(y, 0, PUT, 4);
        due("4 keys, room 3", y.room(3) * 10 + y.room(4), 10 * STATE + 4);
        LinkTree z = told("room 3;put 1 2 3 4 5 6;");
        due("3 entries over leaves of 2", tree(z), "0:1 2|2 1 / 0:3 4|4 3 / 1:2>0 4>1 100>3|100 - / 0:5 6|100 -");
        refusedWith(STATE, "3 entries, room 2", z, i -> z.room(2));
        LinkTree w = told("room 3;put 1 2 3 4;");
        due("2 entries, room 2", w.room(2), 3);
        due("the next one splits", answered(w, 0, PUT, 5, 3), "245 1");
        LinkTree v = told("room 2;put 1 2;");
        v.begin(0, PUT, 3);
        v.step(0);
        due("while it holds", v.room(3), 2);
        due("there is room now", v.step(0) * 10 + v.rule(0), 31);
    }

    public static void main(String[] args) {
        begins();
        noPath();
        nothing();
        downRight();
        downChild();
        downLeaf();
        holdsPut();
        splits();
        holdsTake();
        postsToNewRoot();
        rootsOf24();
        postsDown();
        postsRight();
        holdsAboveSplit();
        aboveOf24();
        holdsAboveDead();
        seen();
        goes();
        drops();
        rooms();
        close("StepSentencesTest");
    }
}
