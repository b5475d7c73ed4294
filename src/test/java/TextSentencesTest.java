/** THE TAPE, texts and their FAULTS, promises 1 to 5: a test for each sentence that names an edge. */
public final class TextSentencesTest extends Sentences {
    private static final String FORTY = numbers(1, 40, 1);

    /** A text that is refused: its FAULT, its place; all that was told stays, but THE TAPE and fault(). */
    private static void refused(String s, int fault, int place) {
        LinkTree x = told("room 2;put 10 20 30;find 2 30;");
        x.keep(1);
        x.begin(0, PUT, 5);
        x.go(0, 2);
        String ahead = all(x);
        feedAll(x, s);
        due("text of " + s, x.text(), -10 - place);
        due("fault of " + s, x.fault(), fault);
        due("what stands behind " + s, all(x), ahead.replace("fault 0", "fault " + fault));
        due("the image behind " + s, x.back(1) * 10 + x.client(0, 0), 30);
    }

    private static void newObject() {
        LinkTree x = new LinkTree();
        says("One empty LEAF; all CLIENTS are IDLE; SHEETS of nothing.");
        due("tree", tree(x), "0:|100 -");
        for (int c = 0; c < 3; c++) {
            due("client", whole(x, c), "0 -2 -2 -2 -2 -2 -2 -2");
        }
        for (int k = 0; k < 4; k++) {
            due("lay " + k, x.lay(k, 0, 0), -11);
            due("read " + k, x.read(k, 0, 0, 1), 0);
            due("torn " + k, x.torn(), 1);
        }
        says("At first there is NODE 0, an empty LEAF, its HIGH 100, no RIGHT, THE ROOT; ROOM is 3 (2 to 4).");
        due("nodes, root, its level, room", "" + x.rule(0) + x.rule(1) + x.rule(2) + x.rule(3), "1003");
        due("node 1", x.node(1, 0), BAD);
        due("images and tape", x.count(1) + x.count(2), 0);
    }

    private static void feeds() {
        says("A byte (0 to 127) comes behind THE TAPE: how many it has. BAD; FULL: more than 160.");
        bounds("feed", 0, 127, c -> new LinkTree().feed(c));
        LinkTree x = new LinkTree();
        feedAll(x, "put 7;");
        for (int i = 6; i < 159; i++) {
            x.feed(' ');
        }
        due("the 160th", x.feed(' '), 160);
        refusedWith(FULL, "the 161st", x, i -> x.feed('x'));
        refusedWith(FULL, "and again", x, i -> x.feed(0));
        refusedWith(BAD, "BAD fits first", x, i -> x.feed(128));
        due("what was fed ahead is read", x.text() * 10 + x.there(7), 11);
        due("feed behind a text", x.feed('x'), 1);
        LinkTree y = new LinkTree();
        y.feed(5);
        refusedWith(BAD, "feed(-1)", y, i -> y.feed(-1));
    }

    private static void ends() {
        says("THE TAPE keeps its first n bytes: how many it had. BAD.");
        LinkTree x = new LinkTree();
        due("end(0) of an empty one", x.end(0), 0);
        refusedWith(BAD, "end(1) of an empty one", x, i -> x.end(1));
        feedAll(x, "put 7;x");
        refusedWith(BAD, "end(-1)", x, i -> x.end(-1));
        refusedWith(BAD, "end(8) of 7", x, i -> x.end(8));
        due("end(7) of 7", x.end(7) * 10 + x.count(2), 77);
        due("end(6) of 7", x.end(6) * 10 + x.count(2), 76);
        due("end(7) of 6", x.end(7), BAD);
        due("the first ones are kept", x.text() * 10 + x.there(7), 11);
        for (int i = 0; i < 160; i++) {
            x.feed(' ');
        }
        due("end(161) of 160", x.end(161), BAD);
        due("end(160) of 160", x.end(160), 160);
        due("full yet", x.feed(' '), FULL);
        due("end(159) of 160", x.end(159), 160);
        due("one comes", x.feed(' '), 160);
        due("end(0) of 160", x.end(0), 160);
        bounds("end of 0", 0, 0, x::end);
    }

    private static void places() {
        says("THE TAPE (empty then) tells all: how many lines; -10 less the place of its FAULT: that which was told stays.");
        LinkTree x = new LinkTree();
        due("an empty tape", x.text(), 0);
        feedAll(x, "   ");
        due("blanks", x.text(), 0);
        refused("x", 2, 0);
        refused(" ".repeat(159) + "?", 1, 159);
        refused("put 1" + " ".repeat(155), 2, 160);
        refused(" ".repeat(159) + "x", 2, 159);
        due("the most lines", told("put1;".repeat(32)).rule(4), 1);
        feedAll(x, "put 1;");
        due("tape behind a text", x.text() * 10 + x.count(2), 10);
        feedAll(x, "put 1");
        due("tape behind a fault", x.text() * 10 + x.count(2), -150);
        says("The FAULT of the latest text(); 0.");
        due("fault", x.fault(), 2);
        x.feed(';');
        due("fault stays till the next text", x.fault(), 2);
        x.end(0);
        x.text();
        due("fault of an empty text", x.fault(), 0);
        due("fault of a new object", new LinkTree().fault(), 0);
    }

    /** Each byte alone, and each behind a figure of a line. */
    private static void bytes() {
        says("TOKENS, each as long as may be, blanks (32) between: NAMES (a .. z), NUMBERS (1 or 2 figures), one ; .");
        for (int b = 0; b < 128; b++) {
            boolean figure = b >= '0' && b <= '9';
            boolean letter = b >= 'a' && b <= 'z';
            LinkTree x = new LinkTree();
            x.feed(b);
            due("text of " + b, x.text(), b == ' ' ? 0 : -10);
            due("fault of " + b, x.fault(), b == ' ' ? 0 : figure || letter || b == ';' ? 2 : 1);
            feedAll(x, "put 1");
            x.feed(b);
            x.feed(';');
            due("text with " + b, x.text(), figure || b == ' ' ? 1 : b == ';' ? -16 : -15);
            due("fault with " + b, x.fault(), figure || b == ' ' ? 0 : letter || b == ';' ? 2 : 1);
            due("key with " + b, x.there(figure ? 10 + b - '0' : 1), figure || b == ' ' ? 1 : 0);
        }
    }

    private static void tokens() {
        says("TOKENS, each as long as may be, blanks (32) between");
        due("no blanks", told("room2;put3 4 5;take4;find0 5;").rule(4), 2);
        due("two figures are one NUMBER", told("put12;").there(12), 1);
        due("a blank parts them", told("put1 2;").rule(4), 2);
        due("blanks all over", told("   put   1   2   ;   take  1  ;  ").rule(4), 1);
        due("zeros ahead", told("put 00 09;").count(4), 9);
        due("the least and the greatest", told("put 0 99;").count(4), 99);
        refused("pu t 1;", 2, 0);
        refused("putt 1;", 2, 0);
        refused("puttake 1;", 2, 0);
        refused("roo 3;", 2, 0);
        refused("Put 1;", 1, 0);
        refused("find01;", 2, 6);
        says("1 no TOKEN, a NUMBER that is too long (its first byte).");
        refused("put 100;", 1, 4);
        refused("put 000;", 1, 4);
        refused("put 12345678901234567890;", 1, 4);
        refused("put 1 234", 1, 6);
        refused("put 1\t2;", 1, 5);
        refused("put 1\n2;", 1, 5);
        refused("room 003;", 1, 5);
        refused("find 000 1;", 1, 5);
        refused("find 0 100;", 1, 7);
        refused("put 1;100", 1, 6);
        refused("put 1;  {", 1, 8);
        refused("put 1,2;", 1, 5);
        refused("put -1;", 1, 4);
    }

    private static void lines() {
        says("line: room N ; | put N { N } ; | take N { N } ; | find N N ;");
        due("one of each", told("room 4;put 1;take 1;find 0 1;").rule(3), 4);
        due("in another order", told("find 0 1;take 1;put 1;room 4;").rule(4), 1);
        says("2 a TOKEN that can not stand there (a NAME that begins no line; or the end: the length).");
        String[] wants = {"room", "put", "take", "find", "room 3", "put 1", "take 1", "find 0", "find 0 1", "put 1 2", "put 1;take"};
        for (String s : wants) {
            refused(s, 2, s.length());
            refused(s + "  ", 2, s.length() + 2);
            refused(s + " x;", 2, s.length() + 1);
            refused(s + " put 1;", 2, s.length() + 1);
        }
        for (String s : new String[] {"room", "put", "take", "find", "find 0", ""}) {
            refused(s + ";", 2, s.length());
        }
        refused("room 3 3;", 2, 7);
        refused("find 0 1 2;", 2, 9);
        refused("put 1;;", 2, 6);
        refused("7;", 2, 0);
        refused("put 1; 7;", 2, 7);
        refused("x 1;", 2, 0);
        refused("put 1;end;", 2, 6);
    }

    private static void names() {
        says("(a NAME that begins no line; or the end: the length)");
        for (String s : new String[] {"room 3;", "put 1;", "take 1;", "find 0 1;"}) {
            int length = s.indexOf(' ');
            for (int i = 0; i < length; i++) {
                String other = s.charAt(i) == 'z' ? "a" : "z";
                refused(s.substring(0, i) + other + s.substring(i + 1), 2, 0);
                refused(s.substring(0, i) + s.substring(i + 1), 2, 0);
                refused(s.substring(0, i) + other + s.substring(i), 2, 0);
            }
            refused(s.substring(0, length) + "z" + s.substring(length), 2, 0);
        }
    }

    private static void rooms() {
        says("3 a NUMBER out of its bounds.");
        for (int v = 2; v <= 4; v++) {
            due("room " + v, told("room " + v + ";").rule(3), v);
        }
        for (String v : new String[] {"0", "1", "5", "9", "01", "05", "10", "99"}) {
            refused("room " + v + ";", 3, 5);
            refused("put 1;room  " + v, 3, 12);
        }
        due("room 02", told("room 02;").rule(3), 2);
        for (String c : new String[] {"3", "9", "03", "99"}) {
            refused("find " + c + " 1;", 3, 5);
        }
        due("find 02", told("find 02 01;").client(2, 2), 1);
        says("room: ROOM.");
        due("without it", told("put 1;").rule(3), 3);
        LinkTree x = told("room 2;");
        due("3 again without it", x.text() * 10 + x.rule(3), 3);
        says("when all is read.");
        due("room told behind its keys", told("put 1 2 3;room 2;").rule(0), 3);
        due("room told behind its keys", told("put 1 2 3 4;room 4;").rule(0), 1);
        says("4 room for the second time (its NAME); a CLIENT that finds already (it).");
        refused("room 3;room 3;", 4, 7);
        refused("room 3;put 1;  room", 4, 15);
        refused("room 3;room 9;", 4, 7);
        refused("room 3;room;", 4, 7);
        feedAll(x, "room 4;x");
        due("refused with a room", x.text(), -17);
        feedAll(x, "room 2;");
        due("room of the next text", x.text() * 10 + x.rule(3), 12);
    }

    private static void finds() {
        says("find: CLIENT (0 to 2) begins to FIND a KEY (behind all PUT, TAKEN, in the order of lines; at most one of each).");
        LinkTree x = told("find 0 0;find 2 99;find 1 5;put 5;room 2;put 4 6;take 4;");
        due("finds 0", whole(x, 0), "1 0 0 2 -4 1 0 0");
        due("finds 1", whole(x, 1), "1 0 5 2 -4 2 0 0");
        due("finds 2", whole(x, 2), "1 0 99 2 -4 1 0 0");
        says("4 room for the second time (its NAME); a CLIENT that finds already (it).");
        for (int c = 0; c < 3; c++) {
            refused("find " + c + " 1;find " + c + " 2;", 4, 14);
            refused("find " + c + " 1;find " + c, 4, 14);
            refused("find " + c + " 1;find 0" + c + ";", 4, 14);
        }
        refused("find 0 1;find 1 1;find 2 1;find 1 1;", 4, 32);
        LinkTree y = new LinkTree();
        feedAll(y, "find 1 1;x");
        due("refused with a find", y.text(), -19);
        feedAll(y, "find 1 2;");
        due("find of the next text", y.text() * 10 + y.client(1, 2), 12);
        says("CLIENT 0 is IDLE behind what it PUT, TOOK.");
        due("behind put", told("put 1;").client(0, 0), IDLE);
        due("behind take", told("take 1;").client(0, 4), STATE);
        due("finds behind put", told("find 0 1;put 1;").client(0, 0), DOWN);
        due("another finds", told("find 1 1;put 1;").client(0, 0), IDLE);
    }

    private static void keys() {
        says("put, take: KEYS that are PUT, TAKEN in this order, each by CLIENT 0 to its end, when all is read.");
        due("put, take", told("put 5;take 5;").there(5), 0);
        due("take, put", told("take 5;put 5;").there(5), 1);
        due("put twice", told("put 5 5;").rule(4), 1);
        due("take twice", told("put 5 6;take 5 5;").rule(4), 1);
        due("rising", tree(told("room 2;put 1 2 3;")), "0:1 2|2 1 / 0:3|100 - / 1:2>0 100>1|100 -");
        due("falling", tree(told("room 2;put 3 2 1;")), "0:1 2|2 1 / 0:3|100 - / 1:2>0 100>1|100 -");
        due("another order", tree(told("room 2;put 4 2;take 4;put 1 3;")), "0:1 2|2 1 / 0:3|100 - / 1:2>0 100>1|100 -");
        due("a leaf dies", tree(told("room 2;put 1 2 3;take 2 1;")), "0:|2 1 x / 0:3|100 - / 1:100>1|100 -");
        LinkTree x = told("room 2;put" + FORTY + ";");
        due("24 nodes", x.rule(0), 24);
        due("keys that are not FULL", x.rule(4) * 10 + x.there(25), 240);
        says("5 a 41st KEY to PUT or TAKE (its NUMBER, whether it is one or not).");
        due("forty", told("room 4;put" + FORTY + ";").rule(4), 40);
        due("forty in two lines", told("put" + numbers(1, 20, 1) + ";take" + numbers(1, 20, 1) + ";").rule(4), 0);
        int behind = 3 + FORTY.length();
        refused("put" + FORTY + " 1;", 5, behind + 1);
        refused("put" + FORTY + "   41 42;", 5, behind + 3);
        refused("take" + FORTY + " 41", 5, behind + 2);
        refused("put" + FORTY + ";put 1;", 5, behind + 5);
        refused("put" + FORTY + ";room 4;find 0 1;take 1;", 5, behind + 22);
        refused("put" + numbers(1, 20, 1) + ";take" + numbers(1, 21, 1) + ";", 5, 3 + 51 + 5 + 51 + 1);
        refused("put" + FORTY + " x;", 5, behind + 1);
        refused("put" + FORTY + ";take;", 5, behind + 5);
        refused("put" + FORTY + ";put take", 5, behind + 5);
        endBehindForty(behind);
        refused("put" + FORTY + " 100;", 1, behind + 1);
        refused("put" + FORTY + ";take ?;", 1, behind + 6);
        due("a line without keys behind forty", told("put" + FORTY + ";room 2;find 1 1;").rule(0), 24);
        LinkTree y = new LinkTree();
        feedAll(y, "put" + FORTY + ";x");
        due("refused with forty", y.text(), -10 - behind - 1);
        feedAll(y, "put 7;");
        due("keys of the next text", y.text() * 10 + y.rule(4), 11);
    }

    private static void endBehindForty(int behind) {
        says("2 a TOKEN that can not stand there (a NAME that begins no line; or the end: the length).");
        refused("put" + FORTY, 2, behind);
        refused("take" + FORTY, 2, behind + 1);
        refused("put" + FORTY + "   ", 2, behind + 3);
        refused("put" + FORTY + ";put", 2, behind + 4);
        refused("put" + FORTY + ";take  ", 2, behind + 7);
        refused("put" + numbers(1, 20, 1) + ";take" + numbers(1, 20, 1), 2, 3 + 51 + 5 + 51);
        refused("put" + numbers(1, 39, 1), 2, behind - 3);
        refused("put" + FORTY + ";room 2;find 1", 2, behind + 14);
    }

    private static void firstMet() {
        says("FAULTS, the first met as it is read (a TOKEN is read when the one before has been taken):");
        refused("x ?", 2, 0);
        refused("room 9 ?", 3, 5);
        refused("room 9;?", 3, 5);
        refused("room 3;room ?", 4, 7);
        refused("find 3 ?", 3, 5);
        refused("find 0 1;find 0 ?", 4, 14);
        refused("put 1 x ?", 2, 6);
        refused("put 1 ? x", 1, 6);
        refused("? x", 1, 0);
        refused("put" + FORTY + " 41 ?", 5, 4 + FORTY.length());
        refused("room 3;x;room 3;", 2, 7);
        refused("find 3 1;room 9;", 3, 5);
    }

    private static void inPlaceOfAll() {
        says("A text that is taken tells all, in place of what there was; all CLIENTS are IDLE but those that FIND; IMAGES are gone.");
        for (String s : new String[] {"", "  ", "put 7;find 1 7;"}) {
            LinkTree x = told("room 2;put 10 20 30 40 50;take 10 20;");
            x.begin(0, PUT, 35);
            x.go(0, 4);
            x.begin(1, TAKE, 50);
            x.go(1, 3);
            x.begin(2, FIND, 1);
            x.go(2, 60);
            x.keep(0);
            x.keep(1);
            x.sheet(0, 1, 5);
            x.read(3, 0, 0, 0);
            feedAll(x, s);
            x.text();
            due("tree of '" + s + "'", tree(x), s.startsWith("put") ? "0:7|100 -" : "0:|100 -");
            due("room, locked, dead", "" + x.rule(3) + x.rule(5) + x.rule(6), "300");
            due("clients", x.client(0, 0) + x.client(1, 0) + x.client(2, 0), s.startsWith("put") ? 1 : 0);
            due("images", x.count(1), 0);
            due("back", x.back(0) + x.back(1), 2 * STATE);
            due("sheets are not of it", x.count(3), 5);
        }
        LinkTree x = new LinkTree();
        x.read(1, 0, 0, 1);
        x.text();
        due("torn is not of it", x.torn(), 1);
        LinkTree y = told("room 4;put" + numbers(1, 40, 1) + ";");
        feedAll(y, "room 2;put 1 2 3;");
        due("smaller", y.text() + " " + tree(y), "2 0:1 2|2 1 / 0:3|100 - / 1:2>0 100>1|100 -");
        feedAll(y, "put 5;");
        due("smaller yet", y.text() + " " + tree(y), "1 0:5|100 -");
    }

    public static void main(String[] args) {
        newObject();
        feeds();
        ends();
        places();
        bytes();
        tokens();
        lines();
        names();
        rooms();
        finds();
        keys();
        firstMet();
        inPlaceOfAll();
        close("TextSentencesTest");
    }
}
