/** Each promise of the document by runs worked out by hand: ordinary inputs, edges, wrong inputs. */
public final class PromiseTest extends Sentences {
    private static final int[] FAR = {Integer.MIN_VALUE, Integer.MAX_VALUE};

    private static void refused(String s, int fault, int place) {
        LinkTree x = told("room 2;put 1 2;");
        x.keep(0);
        feedAll(x, s);
        due("text of " + s, x.text(), -10 - place);
        due("fault of " + s, x.fault(), fault);
        due("tape behind " + s, x.count(2), 0);
        due("room behind " + s, x.rule(3), 2);
        due("keys behind " + s, x.rule(4), 2);
        due("images behind " + s, x.count(1), 1);
    }

    private static void newObject() {
        LinkTree x = new LinkTree();
        due("1 node 0", shape(x, 0), "0:|100 -");
        int[] rules = {1, 0, 0, 3, 0, 0, 0, 0};
        for (int what = 0; what < 8; what++) {
            due("1 rule " + what, x.rule(what), rules[what]);
        }
        int[] counts = {1, 0, 0, NONE, 0, 0};
        for (int what = 0; what < 6; what++) {
            due("1 count " + what, x.count(what), counts[what]);
        }
        for (int c = 0; c < 3; c++) {
            due("1 client " + c, x.client(c, 0), 0);
        }
        for (int k = 0; k < 4; k++) {
            due("1 lay " + k, x.lay(k, 0, 1), -11);
        }
        due("1 fault", x.fault(), 0);
        due("1 torn", x.torn(), 0);
        due("1 check", x.check(), 0);
    }

    private static void tape() {
        LinkTree x = new LinkTree();
        due("2 below", x.feed(-1), BAD);
        due("2 above", x.feed(128), BAD);
        for (int i = 0; i < 160; i++) {
            due("2 feed", x.feed(i % 128), i + 1);
        }
        due("2 full", x.feed(0), FULL);
        due("2 bad and full", x.feed(128), BAD);
        due("3 too many", x.end(161), BAD);
        due("3 below", x.end(-1), BAD);
        due("3 all", x.end(160), 160);
        due("3 less", x.end(7), 160);
        due("3 more than it has", x.end(8), BAD);
        due("3 again", x.end(0), 7);
        due("3 none", x.end(0), 0);
        due("2 first again", x.feed(127), 1);
        for (int far : FAR) {
            due("2 far", x.feed(far), BAD);
            due("3 far", x.end(far), BAD);
        }
        due("28 tape", x.count(2), 1);
    }

    private static void texts() {
        LinkTree x = told("room 2;put 1 2 3;take 2;find 2 3;find 0 2;");
        due("4 room", x.rule(3), 2);
        due("4 leaf 0", shape(x, 0), "0:1|2 1");
        due("4 leaf 1", shape(x, 1), "0:3|100 -");
        due("4 root", shape(x, 2), "1:2>0 100>1|100 -");
        due("4 finds 2", whole(x, 2), "1 0 3 2 " + NONE + " 2 0 0");
        due("4 finds 0", whole(x, 0), "1 0 2 2 " + NONE + " 1 0 0");
        due("4 client 1", x.client(1, 0), 0);
        x.keep(1);
        due("4 empty text", x.text(), 0);
        due("4 all is new", x.rule(0) * 10 + x.rule(3), 13);
        due("4 images are gone", x.back(1), STATE);
        due("4 idle", x.client(2, 0) + x.client(0, 0), 0);
        due("4 room told late", told("put 1 2 3;room 2;").rule(0), 3);
    }

    private static void closeTexts() {
        LinkTree x = told("room4;put1 2 3;take2;find1 3;");
        due("4 close", x.rule(4) * 10 + x.rule(3), 24);
        due("4 close find", x.client(1, 2), 3);
        due("4 blanks", told("  put   7  ;  ").there(7), 1);
        due("4 double take", told("take 5;put 5 5;take 5 5;put 6;").rule(4), 1);
        due("4 zeros", told("put 00 07;").count(4), 7);
        LinkTree y = new LinkTree();
        y.sheet(0, 0, 2);
        y.read(3, 0, 0, 1);
        due("4 sheets stay", y.text() + y.count(3) + y.torn(), 3);
    }

    private static void faults() {
        refused("put 1;?", 1, 6);
        refused("put 100;", 1, 4);
        refused("put 1 A;", 1, 6);
        refused("find 000 1;", 1, 5);
        refused("123", 1, 0);
        refused("puts 1;", 2, 0);
        refused("za 1;", 2, 0);
        refused("find 0 0;find 0 1;", 4, 14);
        refused("find 2 0;find 2", 4, 14);
        refused(";", 2, 0);
        refused("5;", 2, 0);
        refused("put", 2, 3);
        refused("put  ", 2, 5);
        refused("put;", 2, 3);
        refused("put 1", 2, 5);
        refused("put 1 put 2;", 2, 6);
        refused("room;", 2, 4);
        refused("room 2 2;", 2, 7);
        refused("find 1;", 2, 6);
        refused("find 1 1 1;", 2, 9);
        refused("put 1;room 1;", 3, 11);
        refused("room 5;", 3, 5);
        refused("room 99;", 3, 5);
        refused("find 3 100;", 3, 5);
        refused("room 3;room", 4, 7);
        refused("room 3;put 1;room 9;", 4, 13);
        refused("find 0 1;find 1 1;find 0", 4, 23);
        StringBuilder b = new StringBuilder("put");
        for (int i = 0; i < 40; i++) {
            b.append(" 1");
        }
        String forty = b.toString();
        LinkTree x = told(forty + ";");
        due("5 forty", x.fault() + x.rule(4), 1);
        refused(forty + " 1;", 5, 84);
        refused(forty + ";take 1;", 5, 89);
        refused(forty + " x;", 5, 84);
        refused(forty + " 100;", 1, 84);
        refused(forty + ";take;", 5, 88);
        refused(forty, 2, 83);
        refused(forty + ";take", 2, 88);
        due("5 mended", x.text() + x.fault(), 0);
    }

    private static void looks() {
        LinkTree x = told("room 2;put 10 20 30;");
        due("6", "" + x.rule(0) + x.rule(1) + x.rule(2) + x.rule(3) + x.rule(4) + x.rule(5) + x.rule(6) + x.rule(7), "32123000");
        due("7", shape(x, 0) + " " + shape(x, 1) + " " + shape(x, 2), "0:10 20|20 1 0:30|100 - 1:20>0 100>1|100 -");
        due("7 locked", x.node(0, 4), NONE);
        due("8 leaf's child", x.entry(0, 0, 1), NONE);
        due("8 no such key", x.entry(1, 1, 0), BAD);
        due("8 no such key's child", x.entry(1, 1, 1), BAD);
        x.begin(0, TAKE, 10);
        due("6 may", x.rule(7), 1);
        x.go(0, 2);
        due("6 locked", x.rule(5), 1);
        due("7 locked by", x.node(0, 4), 0);
        due("9 idle", whole(x, 1), "0 -2 -2 -2 -2 -2 -2 -2");
        due("9 holds", whole(x, 0), "2 2 10 0 -4 2 2 0");
        due("9 bad of an idle one", x.client(1, 8), BAD);
        due("10 there", x.there(10) + x.there(30), 2);
        due("10 not there", x.there(0) + x.there(99), 0);
        int[] off = {Integer.MIN_VALUE, -1, 100, Integer.MAX_VALUE};
        for (int n : off) {
            due("6 bad", x.rule(n), BAD);
            due("7 bad", x.node(n, 0), BAD);
            due("7 bad what", x.node(0, n), BAD);
            due("8 bad", x.entry(n, 0, 0), BAD);
            due("8 bad key", x.entry(0, n, 0), BAD);
            due("8 bad what", x.entry(0, 0, n), BAD);
            due("9 bad", x.client(n, 0), BAD);
            due("9 bad what", x.client(0, n), BAD);
            due("10 bad", x.there(n), BAD);
        }
        due("edges", "" + x.rule(8) + x.node(3, 0) + x.node(0, 6) + x.entry(0, 0, 2) + x.client(3, 0), "-1-1-1-1-1");
    }

    private static void begins() {
        LinkTree x = new LinkTree();
        due("11", x.begin(0, PUT, 99), 0);
        due("11 down", x.begin(0, FIND, 1), STATE);
        x.step(0);
        due("11 holds", x.begin(0, FIND, 1), STATE);
        due("11 bad first", x.begin(0, 3, 1), BAD);
        x.step(0);
        due("11 done", whole(x, 0), "5 1 99 0 1 3 2 0");
        due("11 from done", x.begin(0, FIND, 0), 5);
        due("11 anew", whole(x, 0), "1 0 0 0 -4 1 0 0");
        int[] off = {Integer.MIN_VALUE, -1, 100, Integer.MAX_VALUE};
        for (int n : off) {
            due("11 bad client", x.begin(n, 0, 0), BAD);
            due("11 bad act", x.begin(1, n, 0), BAD);
            due("11 bad key", x.begin(1, 0, n), BAD);
            due("12 bad", x.step(n), BAD);
            due("13 bad", x.go(n, 1), BAD);
            due("13 bad n", x.go(0, n), BAD);
            due("14 bad", x.drop(n), BAD);
        }
        due("edges", "" + x.begin(3, 0, 0) + x.step(3) + x.go(3, 0) + x.go(0, 61) + x.drop(3), "-1-1-1-1-1");
        due("11 refused changed nothing", x.client(1, 0), 0);
        LinkTree y = told("room 2;put 10 20;");
        y.begin(0, PUT, 30);
        due("11 parts", codes(y, 0, 2), "45");
        due("11 posts", y.begin(0, PUT, 30), STATE);
    }

    private static void puts() {
        LinkTree x = told("room 2;put 10 20;");
        due("12 idle", x.step(0), 0);
        x.begin(0, PUT, 10);
        due("12 there already", codes(x, 0, 3), "430");
        due("12 its answer", x.client(0, 4), 0);
        x.begin(0, PUT, 15);
        due("12 root", codes(x, 0, 4), "4570");
        due("12 at stays", x.client(0, 3), 0);
        due("12 leaves", shape(x, 0) + " " + shape(x, 1), "0:10 15|15 1 0:20|100 -");
        due("12 above", shape(x, 2), "1:15>0 100>1|100 -");
        x.begin(0, PUT, 12);
        due("12 split and root split", codes(x, 0, 7), "2454570");
        due("12 left", shape(x, 2), "1:12>0 15>3|15 4");
        due("12 right", shape(x, 4), "1:100>1|100 -");
        due("12 top", shape(x, 5), "2:15>2 100>4|100 -");
        due("12 steps", whole(x, 0), "5 1 12 2 1 3 6 0");
        x.begin(1, FIND, 15);
        due("12 find", codes(x, 1, 4), "2230");
        due("12 found", x.drop(1), 1);
        LinkTree y = told("room 4;put 1 2 3 4;");
        y.begin(0, PUT, 5);
        y.go(0, 60);
        due("12 odd halves", shape(y, 0) + " " + shape(y, 1), "0:1 2 3|3 1 0:4 5|100 -");
        LinkTree z = told("room 3;put 1 2 3 0;");
        due("12 even halves", shape(z, 0) + " " + shape(z, 1), "0:0 1|1 1 0:2 3|100 -");
    }

    /** Two splits of one LEAF that is THE ROOT: the later one finds the new ROOT. */
    private static void latePosts() {
        LinkTree x = told("room 2;put 10 20;");
        x.begin(0, PUT, 30);
        x.begin(1, PUT, 40);
        x.begin(2, PUT, 5);
        due("12 first split", codes(x, 0, 2), "45");
        due("12 right", codes(x, 1, 3), "143");
        x.begin(1, PUT, 50);
        due("12 right and split", codes(x, 1, 3), "145");
        due("12 chain", shape(x, 0) + " " + shape(x, 1) + " " + shape(x, 2), "0:10 20|20 1 0:30 40|40 2 0:50|100 -");
        due("12 posts first", codes(x, 1, 1), "7");
        due("12 root", shape(x, 3), "1:40>0 100>2|100 -");
        due("12 to the root", codes(x, 0, 1), "9");
        due("12 locks above", codes(x, 0, 1), "4");
        due("6 locked above", x.node(3, 4), 0);
        due("12 splits above", codes(x, 0, 3), "570");
        due("12 both", shape(x, 3) + " " + shape(x, 4), "1:20>0 40>1|40 4 1:100>2|100 -");
        due("9 rights", x.client(1, 7), 1);
        due("20 holds", x.check(), 0);
    }

    private static void waits() {
        LinkTree x = told("room 2;put 10 20 30;");
        x.begin(0, PUT, 5);
        x.begin(1, TAKE, 10);
        x.begin(2, FIND, 10);
        x.go(0, 2);
        due("13 up to nothing", x.go(1, 60), 1);
        due("12 locked", x.step(1), 0);
        due("13 nothing", x.go(1, 60), 0);
        due("9 nothing is no step", x.client(1, 6), 1);
        due("6 may", x.rule(7), 5);
        due("13 find goes through", x.go(2, 60), 2);
        due("13 none", x.go(0, 0), 0);
        due("12 unlocks", codes(x, 0, 1), "5");
        due("6 may again", x.rule(7), 3);
        due("12 goes on", codes(x, 1, 2), "43");
        due("14 not done", x.drop(0), STATE);
        due("14 done", x.drop(1), 1);
        due("14 idle", x.drop(1), STATE);
        due("14 gone", x.client(1, 0), 0);
        due("12 above locked", codes(x, 0, 1), "4");
        x.begin(1, PUT, 31);
        due("12 beside", codes(x, 1, 3), "243");
        x.begin(1, PUT, 32);
        due("12 second above", codes(x, 1, 4), "2450");
        due("12 posts waits", x.client(1, 0), 3);
        due("12 first posts", codes(x, 0, 2), "57");
        due("12 mid above the high", codes(x, 1, 3), "148");
        due("20 holds", x.check(), 0);
    }

    private static void deaths() {
        LinkTree x = told("room 2;put 10 20 30 40 50;");
        due("12 before", shape(x, 2) + " / " + shape(x, 4), "1:20>0 40>1|40 4 / 1:100>3|100 -");
        x.begin(0, TAKE, 11);
        due("12 not there", codes(x, 0, 5), "22430");
        due("14 not there", x.drop(0), 0);
        act(x, 0, TAKE, 10);
        x.begin(0, TAKE, 20);
        x.begin(1, PUT, 15);
        x.go(1, 2);
        due("12 dies", codes(x, 0, 4), "2246");
        due("7 dead", shape(x, 0), "0:|20 1 x");
        due("9 posts", whole(x, 0), "3 2 20 2 1 3 4 0");
        due("12 past the dead one", codes(x, 1, 3), "145");
        due("12 the next one", shape(x, 1) + " / " + shape(x, 6), "0:15 30|30 6 / 0:40|40 3");
        due("12 entry goes", codes(x, 0, 3), "480");
        due("12 above", shape(x, 2), "1:40>1|40 4");
        due("12 posts late", codes(x, 1, 3), "480");
        due("12 above then", shape(x, 2), "1:30>1 40>6|40 4");
        due("21 dead ones too", "" + x.leaf(0) + x.leaf(1) + x.leaf(2) + x.leaf(3) + x.leaf(4), "0163" + NONE);
        due("6 dead", x.rule(6), 1);
        due("28 leaves", x.count(0), 4);
        act(x, 2, TAKE, 40);
        due("12 last entry stays", shape(x, 2), "1:30>1 40>6|40 4");
        due("12 it is dead", x.node(6, 5), 1);
        act(x, 2, TAKE, 50);
        due("12 no right, no death", shape(x, 3), "0:|100 -");
        due("20 holds", x.check(), 0);
    }

    /** THE ROOT is a LEAF that was split and dies ahead of the post: nothing to take out. */
    private static void deadRoot() {
        LinkTree x = told("room 2;put 10 20;");
        x.begin(0, PUT, 30);
        x.go(0, 2);
        act(x, 1, TAKE, 10);
        x.begin(1, TAKE, 20);
        due("12 dead root", codes(x, 1, 4), "4630");
        due("12 root posts", codes(x, 0, 2), "70");
        due("12 root", shape(x, 2), "1:20>0 100>1|100 -");
        due("20 holds", x.check(), 0);
        due("12 found past it", act(x, 2, FIND, 30), 1);
        x.begin(2, FIND, 7);
        due("12 past it", codes(x, 2, 4), "2130");
    }

    private static LinkTree filled() {
        LinkTree x = told("room 2;put 1 2 3 4 5 6 7 8 9 10 11 12;");
        for (int key = 13; key < 40; key++) {
            act(x, 0, PUT, key);
        }
        return x;
    }

    private static void fullTree() {
        LinkTree x = filled();
        due("12 full", x.rule(0), 24);
        int most = 0;
        for (int key = 0; key < 100; key++) {
            most = x.there(key) == 1 ? key : most;
        }
        due("14 full", act(x, 1, PUT, 99), FULL);
        due("14 full is no key", x.there(99), 0);
        due("14 there yet", act(x, 1, PUT, most), 0);
        x.begin(1, PUT, 98);
        x.go(1, 60);
        due("9 full", x.client(1, 4), FULL);
        due("17 full is no answer", x.answers(1, 0, 0) + x.answers(1, 0, 1), 0);
        due("16 full is no lie", x.rows(0, 4), 0);
        due("20 holds", x.check(), 0);
        due("26 full", x.sheet(0, 2, 3) + x.lay(0, 0, 1) + x.lay(0, 1, 97), 3);
        due("26 second is full", x.read(0, 2, 0, 2), -21);
        due("26 first is there", x.read(0, 2, 0, 1), 1);
    }

    private static void rooms() {
        LinkTree x = told("put 1 2 3;");
        due("15", x.room(4), 3);
        due("15 less", x.room(3), 4);
        due("15 too wide", x.room(2), STATE);
        due("15 stays", x.rule(3), 3);
        due("15 bad below", x.room(1), BAD);
        due("15 bad above", x.room(5), BAD);
        for (int far : FAR) {
            due("15 far", x.room(far), BAD);
        }
        due("15 entries too", told("room 4;put 1 2 3 4 5 6 7;").room(2), STATE);
    }

    private static void rows() {
        LinkTree x = told("put 0;");
        for (int what = 0; what < 5; what++) {
            due("16 all idle " + what, x.rows(7, what), what < 3 ? 1 : 0);
        }
        x.begin(0, TAKE, 0);
        x.begin(1, FIND, 0);
        x.begin(2, FIND, 0);
        // two STEPS of 0 and one of each other: 4! / 2!
        due("16 how many", x.rows(7, 0), 12);
        due("16 of 2", x.rows(2, 0), 7);
        due("16 of 0", x.rows(0, 0), 1);
        due("16 done", x.rows(7, 1), 12);
        due("16 done of 3", x.rows(3, 1), 0);
        due("16 nodes", x.rows(4, 2), 1);
        due("16 rights", x.rows(4, 3), 0);
        due("16 lies", x.rows(7, 4), 0);
        due("17 was there", x.answers(1, 4, 1), 8);
        due("17 was not", x.answers(1, 4, 0), 4);
        due("17 not yet", x.answers(1, 0, 0) + x.answers(1, 0, 1), 0);
        due("18 first", x.first(2, 4, 1), 10120);
        due("18 not", x.first(1, 4, 0), 10012);
        due("18 none", x.first(1, 0, 1), NONE);
        due("19 of 0", x.chance(1, 0, 1, 0) * 10 + x.chance(1, 0, 1, 1), 1);
        due("16 by themselves", whole(x, 0) + x.there(0), "1 2 0 0 -4 2 0 01");
    }

    private static void longRows() {
        LinkTree x = told("room 2;put 1 2 3 4 5;find 0 1;find 1 1;find 2 9;");
        // each MAY make 3 STEPS: 7 of them as 3, 3, 1 (140 ways) or 3, 2, 2 (210 ways), by any of the three
        due("16 of 7", x.rows(7, 0), 1050);
        due("16 of 6", x.rows(6, 0), 3 * 20 + 6 * 60 + 90);
        due("16 none is all done", x.rows(7, 1), 0);
        due("17 of 7", x.answers(0, 7, 1), 2 * 140 + 210);
        due("18 of 7", x.first(2, 7, 0), 10001222);
        due("18 first of 7", x.first(0, 7, 1), 10001112);
        due("19 of 7", x.chance(0, 7, 0, 0) * 10 + x.chance(0, 7, 0, 1), 1);
        x.go(0, 60);
        due("17 done ahead", x.answers(0, 7, 1), 20);
        due("16 the rest", x.rows(7, 1), 20);
        due("19 certain", x.chance(0, 7, 1, 0) * 10 + x.chance(0, 7, 1, 1), 11);
    }

    private static void odds() {
        LinkTree x = told("put 0;");
        x.begin(0, TAKE, 0);
        x.begin(1, FIND, 0);
        x.begin(2, FIND, 1);
        // 1 finds nothing if 0 makes both STEPS ahead of it, whenever 2 makes its own: 1/2 * 1/2
        due("19 up", x.chance(1, 7, 0, 0), 1);
        due("19 low", x.chance(1, 7, 0, 1), 4);
        due("19 other up", x.chance(1, 7, 1, 0), 3);
        due("19 other low", x.chance(1, 7, 1, 1), 4);
        // of two STEPS: 0 then 0, and no more: 1 has no ANSWER; 1 first: 1/3; 0 or 2, then 1: 1/9 + 1/6
        due("19 two steps", x.chance(1, 2, 1, 0) * 100 + x.chance(1, 2, 1, 1), 1118);
        due("19 one step", x.chance(1, 1, 1, 0) * 10 + x.chance(1, 1, 1, 1), 13);
        due("17 idle", told("").answers(0, 7, 0), 0);
        due("18 idle", told("").first(0, 7, 0), NONE);
        due("19 idle", told("").chance(0, 7, 0, 1), 1);
        LinkTree y = told("put 3;");
        act(y, 0, FIND, 3);
        due("17 idle with an old answer", y.answers(0, 0, 1), 0);
        int[] off = {Integer.MIN_VALUE, -1, 8, Integer.MAX_VALUE};
        for (int n : off) {
            due("16 bad", x.rows(n, 0), BAD);
            due("16 bad what", x.rows(1, n), BAD);
            due("17 bad", "" + x.answers(n, 1, 1) + x.answers(1, n, 1) + x.answers(1, 1, n), "-1-1-1");
            due("18 bad", "" + x.first(n, 1, 1) + x.first(1, n, 1) + x.first(1, 1, n), "-1-1-1");
            due("19 bad", "" + x.chance(n, 1, 1, 1) + x.chance(1, n, 1, 1) + x.chance(1, 1, n, 1) + x.chance(1, 1, 1, n), "-1-1-1-1");
        }
        due("edges", "" + x.rows(0, 5) + x.answers(3, 0, 0) + x.first(0, 0, 2) + x.chance(0, 0, 0, 2), "-1-1-1-1");
    }

    private static void rightsInRows() {
        LinkTree x = told("room 2;put 10 20;");
        x.begin(0, PUT, 30);
        x.begin(1, FIND, 30);
        x.begin(2, FIND, 20);
        due("16 rights", x.rows(7, 3), 1);
        due("16 nodes", x.rows(7, 2), 3);
        due("16 nodes of 2", x.rows(2, 2), 2);
        x.go(0, 2);
        x.step(1);
        due("16 those made ahead do not count", x.rows(7, 3), 0);
        due("17 done or not", x.answers(0, 0, 1), 1);
        due("18 at once", x.first(0, 0, 1), 1);
        due("18 in each", x.first(0, 2, 1), 101);
    }

    /** Late posts of two CLIENTS with one MID: the entry of a dead LEAF goes, and a LEAF is out of reach. */
    private static void lostLeaf() {
        LinkTree x = told("room 2;put 10 20 30;");
        x.begin(0, PUT, 5);
        due("20 split", codes(x, 0, 3), "245");
        act(x, 1, TAKE, 5);
        x.begin(1, TAKE, 10);
        due("20 dies", codes(x, 1, 3), "246");
        act(x, 2, PUT, 10);
        x.begin(2, PUT, 7);
        due("20 split again", codes(x, 2, 8), "21454570");
        due("20 holds yet", x.check(), 0);
        due("20 entry goes", codes(x, 1, 2), "48");
        due("20 lost", x.check(), 6);
        due("20 there", x.there(7) + x.there(10), 2);
        x.begin(2, FIND, 7);
        due("16 no lie yet", x.rows(2, 4), 0);
        due("16 a lie", x.rows(3, 4), 1);
        due("16 lies of all", x.rows(7, 4), x.rows(7, 0));
        x.go(2, 60);
        due("16 lied", x.rows(0, 4), 1);
        due("9 not seen", x.client(2, 4) * 10 + x.client(2, 5), 2);
        act(x, 1, PUT, 7);
        due("6 each leaf's", x.rule(4), 5);
        due("28 a key once", x.count(4), 67);
    }

    /** A dead LEAF's HIGH stays the last of its NODE, and comes again in the NODE to the right. */
    private static void twoEqualHighs() {
        LinkTree x = told("room 2;put 10 20 30 40 50;take 30 40 50;");
        due("20 before", shape(x, 2) + " / " + shape(x, 4), "1:20>0 40>1|40 4 / 1:100>3|100 -");
        due("20 dead", shape(x, 1), "0:|40 3 x");
        due("20 holds", x.check(), 0);
        LinkTree y = told("room 2;put 10 20 30 40 50;take 30 40 50;put 25 30 99 40;take 99;put 35 98;");
        due("20 left", shape(y, 2), "1:20>0 40>1|40 4");
        due("20 right", shape(y, 4), "1:30>3 40>6|40 8");
        due("20 high not below", y.check(), 3);
        due("20 found yet", act(y, 0, FIND, 35) + act(y, 0, FIND, 98), 2);
    }

    private static void leaves() {
        LinkTree x = told("room 2;put 10 20 30 40 50 15;");
        due("21", "" + x.leaf(0) + x.leaf(1) + x.leaf(2) + x.leaf(3) + x.leaf(4), "0613" + NONE);
        due("21 bad", x.leaf(-1), BAD);
        due("21 far", x.leaf(24), NONE);
        for (int far : FAR) {
            due("21 far", x.leaf(far), far < 0 ? BAD : NONE);
        }
    }

    private static void images() {
        LinkTree x = told("room 2;put 1;");
        due("23 none", x.back(0), STATE);
        due("22 first", x.keep(0), 0);
        x.begin(1, PUT, 2);
        x.step(1);
        due("22 second", x.keep(1), 0);
        due("28 images", x.count(1), 2);
        due("22 again", x.keep(1), 1);
        x.step(1);
        act(x, 1, PUT, 3);
        x.room(4);
        x.feed('x');
        x.sheet(0, 0, 3);
        due("23", x.back(1), 1);
        due("23 client", whole(x, 1), "2 1 2 0 -4 1 1 0");
        due("23 room", x.rule(3), 2);
        due("23 tape and sheets are none of it", x.count(2) * 10 + x.count(3), 13);
        x.go(1, 60);
        due("23 twice", x.back(1) + x.there(2), 1);
        due("23 other", x.back(0) + x.client(1, 0), 1);
        due("28 stay", x.count(1), 2);
        int[] off = {Integer.MIN_VALUE, -1, 2, Integer.MAX_VALUE};
        for (int k : off) {
            due("22 bad", x.keep(k), BAD);
            due("23 bad", x.back(k), BAD);
        }
    }

    /** What is to POST is in an IMAGE too. */
    private static void imagesOfPosts() {
        LinkTree x = told("room 2;put 10 20 30;");
        x.begin(0, PUT, 15);
        due("22 a split", codes(x, 0, 3), "245");
        x.keep(0);
        x.begin(1, TAKE, 20);
        x.go(1, 4);
        due("22 dead", shape(x, 3), "0:|20 1 x");
        x.keep(1);
        x.go(0, 60);
        x.go(1, 60);
        due("23 nodes", x.back(0), 4);
        due("23 goes on", codes(x, 0, 5), "45700");
        due("23 posted", shape(x, 2) + " / " + shape(x, 4), "1:15>0 20>3|20 4 / 1:100>1|100 -");
        due("23 dead nodes", x.back(1), 4);
        due("23 dead again", x.rule(6), 1);
        due("23 not posted yet", codes(x, 1, 3), "430");
        due("23 then", codes(x, 0, 3), "457");
        due("23 posted again", shape(x, 2), "1:15>0 20>3|20 4");
        LinkTree y = told("room 4;put 1 2 3 4 5 6 7;take 1 2;");
        y.begin(2, TAKE, 3);
        y.go(2, 3);
        y.keep(1);
        y.text();
        due("22 gone", y.back(1), STATE);
        LinkTree z = told("room 4;put 1 2 3 4 5 6 7;take 1 2;");
        z.begin(2, TAKE, 3);
        due("22 dies", codes(z, 2, 3), "246");
        z.keep(1);
        due("23 entry goes", codes(z, 2, 2), "48");
        due("23 a split between", act(z, 2, PUT, 8) * 10 + z.rule(0), 14);
        due("23 to the death", z.back(1), 3);
        due("23 entry goes again", codes(z, 2, 2), "48");
        due("23 without it", shape(z, 2), "1:100>1|100 -");
    }

    private static void sheets() {
        LinkTree x = new LinkTree();
        due("24 none", x.sheet(0, 0, 0), 1);
        due("28 cells", x.count(3), 0);
        due("24 most", x.sheet(0, 2, 40), 1);
        due("24 too many", x.sheet(0, 0, 41), BAD);
        due("24 below", x.sheet(0, 0, -1), -14);
        due("24 far below", x.sheet(3, 2, Integer.MIN_VALUE), -14);
        due("24 refused changes nothing", x.count(3), 40);
        due("24 bad first", x.sheet(4, 0, -1) + x.sheet(0, 3, -1) + x.sheet(-1, 0, -1) + x.sheet(0, -1, -1), 4 * BAD);
        due("25 last", x.lay(0, 39, 5), 1);
        due("25 behind", x.lay(0, 40, 5), -12);
        due("25 ahead", x.lay(0, -1, 5), -12);
        due("25 nothing", x.lay(1, -1, 5), -11);
        due("25 bad", x.lay(4, 0, 5) + x.lay(-1, 0, 5), 2 * BAD);
        due("26 last cell", x.read(0, 2, 39, 1), 1);
        due("26 came", x.there(5), 1);
        due("24 anew", x.sheet(0, 2, 40), 1);
        due("26 zeros", x.read(0, 2, 39, 2), 1);
        due("27 index", x.torn(), 2);
        due("26 zero came", x.there(0), 1);
        x.sheet(1, 0, 2);
        due("25 byte", x.lay(1, 0, 256 + 7) + x.lay(1, 1, 200), 2);
        due("26 byte", x.read(1, 0, 0, 1) + x.there(7), 2);
        due("26 byte below 0", x.read(1, 0, 0, 2), -21);
        x.sheet(2, 1, 2);
        due("25 short", x.lay(2, 0, 65536 + 8) + x.lay(2, 1, 40000), 2);
        due("26 short", x.read(2, 1, 0, 1) + x.there(8), 2);
        due("26 short below 0", x.read(2, 1, 1, 1), -20);
        due("25 int", x.lay(0, 0, 65536 + 9) + x.lay(0, 1, 99), 2);
        due("26 int too great", x.read(0, 2, 0, 2), -20);
        due("26 int", x.read(0, 2, 1, 1) + x.there(99), 2);
    }

    private static void reads() {
        LinkTree x = told("room 2;put 50;");
        x.sheet(0, 0, 3);
        x.lay(0, 0, 10);
        x.lay(0, 1, 50);
        x.lay(0, 2, 20);
        x.begin(1, FIND, 10);
        due("26", x.read(0, 0, 0, 5), 3);
        due("27 index", x.torn(), 2);
        due("26 idle", x.client(0, 0), 0);
        due("9 seen by another", x.client(1, 5), 3);
        due("26 tree", shape(x, 0) + " " + shape(x, 1), "0:10 20|20 1 0:50|100 -");
        due("26 cast", x.read(0, 2, 0, 1), 0);
        due("27 cast", x.torn(), 3);
        due("26 cast ahead of index", x.read(0, 1, 9, 1), 0);
        due("27 cast again", x.torn(), 3);
        due("26 null", x.read(3, 1, -5, 1), 0);
        due("27 null", x.torn(), 1);
        due("26 index below", x.read(0, 0, -1, 3), 0);
        due("27 index again", x.torn(), 2);
        due("26 far", x.read(0, 0, Integer.MAX_VALUE, 40) + x.read(0, 0, Integer.MIN_VALUE, 40), 0);
        x.lay(0, 1, 100);
        due("26 no key", x.read(0, 0, 0, 9), -21);
        due("27 refused changes nothing", x.torn(), 2);
        due("26 bad", "" + x.read(4, 0, 0, 0) + x.read(0, 3, 0, 0) + x.read(0, 0, 0, 41) + x.read(0, 0, 0, -1) + x.read(-1, 0, 0, 0)
            + x.read(0, -1, 0, 0), "-1-1-1-1-1-1");
        due("27 bad changes nothing", x.torn(), 2);
        due("26 none", x.read(0, 0, 0, 0), 0);
        due("27 none", x.torn(), 0);
        x.begin(2, PUT, 51);
        x.go(2, 2);
        due("26 locked", x.read(0, 0, 0, 1), STATE);
        x.step(2);
        due("26 unlocked", x.read(0, 0, 0, 1), 1);
        act(x, 0, FIND, 1);
        due("26 idle again", x.read(0, 0, 0, 1), 1);
        x.begin(0, FIND, 1);
        x.go(0, 60);
        due("26 done is not idle", x.read(0, 0, 0, 1), STATE);
        due("26 bad ahead of state", x.read(0, 0, 0, 41), BAD);
    }

    private static void refusedReadUndoesAll() {
        LinkTree x = told("room 2;put 10 20;find 1 5;");
        x.sheet(0, 0, 4);
        x.lay(0, 0, 5);
        x.lay(0, 1, 6);
        x.lay(0, 2, -3);
        due("26 none came", x.read(0, 0, 0, 4), -22);
        due("26 tree", x.rule(0) * 100 + x.rule(4), 102);
        due("26 not seen", x.client(1, 5), 1);
        due("26 not there", x.there(5), 0);
        due("28", x.count(4) * 10 + x.count(5), 300);
        act(x, 0, PUT, 30);
        due("28 entries", x.count(5), 2);
        due("28 sum", x.count(4), 60);
        due("28 bad", x.count(-1) + x.count(6) + x.count(FAR[0]) + x.count(FAR[1]), 4 * BAD);
    }

    public static void main(String[] args) {
        newObject();
        tape();
        texts();
        closeTexts();
        faults();
        looks();
        begins();
        puts();
        latePosts();
        waits();
        deaths();
        deadRoot();
        fullTree();
        rooms();
        rows();
        longRows();
        odds();
        rightsInRows();
        lostLeaf();
        twoEqualHighs();
        leaves();
        images();
        imagesOfPosts();
        sheets();
        reads();
        refusedReadUndoesAll();
        close("PromiseTest");
    }
}
