/** One method a promise: ordinary inputs, the edges that the document names, and wrong inputs. */
public final class PromisesTest {
    private static final int SYNTAX = 0;
    private static final int NUMBER = 1;
    private static final int DEEP = 2;
    private static final int PIECES = 3;
    private static final int CLAUSE = 4;

    private static int wrong = 0;
    private static int promise = 0;

    private PromisesTest() {
    }

    private static void due(String what, int got, int want) {
        if (got != want) {
            wrong++;
            System.out.println("promise " + promise + ": " + what + " is " + got + ", due is " + want);
        }
    }

    private static void due(String what, boolean got, boolean want) {
        due(what, got ? 1 : 0, want ? 1 : 0);
    }

    private static int tell(PaperRiver x, String text) {
        Texts.feed(x, text);
        return x.river();
    }

    private static int law(PaperRiver x, String text) {
        Texts.feed(x, text);
        return x.rule();
    }

    private static PaperRiver with(String text) {
        PaperRiver x = new PaperRiver();
        int answer = tell(x, text);
        if (answer < 0) {
            due("river() of " + text, answer, 0);
        }
        return x;
    }

    /** A river with the rule in force. */
    private static PaperRiver with(String text, String rule) {
        PaperRiver x = with(text);
        due("rule() of " + rule, law(x, rule), 0);
        x.force(0);
        return x;
    }

    private static int fault(int place, int kind) {
        return -2 - (1 + 8 * place + kind);
    }

    private static void riverFault(String text, int place, int kind) {
        due("river() of '" + text + "'", tell(new PaperRiver(), text), fault(place, kind));
    }

    private static void ruleFault(String text, int place, int kind) {
        due("rule() of '" + text + "'", law(new PaperRiver(), text), fault(place, kind));
    }

    private static String times(int n, String text) {
        return text.repeat(n);
    }

    private static void days(PaperRiver x, int n) {
        for (int i = 0; i < n; i++) {
            x.day();
        }
    }

    private static void newObject() {
        PaperRiver x = new PaperRiver();
        due("NONE", PaperRiver.NONE, -1);
        for (int what = 0; what <= 12; what++) {
            due("count(" + what + ")", x.count(what), what == 6 ? -1 : 0);
        }
        due("undo()", x.undo(), -2);
        due("rows(0, 0)", x.rows(0, 0), -1);
        due("fleet(0, 0)", x.fleet(0, 0), -1);
        due("day()", x.day(), -1);
        due("gates(1, 0)", x.gates(1, 0), -1);
        due("force(-1)", x.force(-1), -1);
    }

    private static void feed() {
        PaperRiver x = new PaperRiver();
        for (int i = 1; i <= 20; i++) {
            due("feed " + i, x.feed(0x20202020, 0x20202020, 0x20202020, 0x20202020, 0x20202020), 20 * i);
        }
        due("feed 21", x.feed(0, 0, 0, 0, 0), -1);
        due("count(12)", x.count(12), 400);
        due("end", x.end(381), 381);
        due("feed", x.feed(0, 0, 0, 0, 0), -1);
        due("end", x.end(380), 380);
        due("feed", x.feed(0x72697665, 0x72203220, -1, 0, 0), 400);
        due("river of blanks ahead and a byte 255", x.river(), fault(388, SYNTAX));
        due("the tape is empty", x.count(12), 0);
    }

    private static void end() {
        PaperRiver x = new PaperRiver();
        due("end(1)", x.end(1), -1);
        due("end(-1)", x.end(-1), -1);
        due("end(0)", x.end(0), 0);
        x.feed(0, 0, 0, 0, 0);
        due("end(21)", x.end(21), -1);
        due("count(12)", x.count(12), 20);
        due("end(20)", x.end(20), 20);
        due("end(7)", x.end(7), 7);
        due("end(8)", x.end(8), -1);
        due("count(12)", x.count(12), 7);
    }

    private static void river() {
        PaperRiver x = new PaperRiver();
        due("ordinary", tell(x, " river5 ;flow 4 1; mouth 2;mouth 3;flow 3 0;eddy 1 9;eddy 1 2;mill 0f;dam 4;net 3 8;scrap 1 fa"), 1);
        due("flow 4", x.cell(4, 0), 1);
        due("mouth 2", x.cell(2, 0), -1);
        due("the last told of flow and mouth", x.cell(3, 0), 0);
        due("untold", x.cell(1, 0), 2);
        due("eddy, the last told", x.cell(1, 1), 2);
        due("mill", x.cell(0, 2), 6);
        due("dam", x.cell(4, 3), 1);
        due("net", x.cell(3, 4), 8);
        due("scrap", x.scrap(0, 1), 61);
        due("tape is empty", x.count(12), 0);
        x.day();
        x.seed(77);
        law(x, "join 1=1");
        x.force(0);
        due("a fault", tell(x, "river 17"), fault(6, NUMBER));
        due("tape is empty", x.count(12), 0);
        due("all stays", x.count(0), 5);
        due("acts stay", x.count(10), 1);
        due("another", tell(x, "river 2"), 0);
        due("cells", x.count(0), 2);
        due("day", x.count(7), 0);
        due("nothing to be undone", x.undo(), -2);
        due("the rule stays in force", x.count(6), 0);
        due("x stays", x.count(11), 77);
        due("mills", x.count(1), 0);
        due("dams", x.count(2), 0);
        due("nets", x.count(3), 0);
    }

    private static void riverFaults() {
        riverFault("", 0, SYNTAX);
        riverFault("   ", 3, SYNTAX);
        riverFault("river", 5, SYNTAX);
        riverFault("river 1", 6, NUMBER);
        riverFault("river 000003", 6, NUMBER);
        due("five digits", tell(new PaperRiver(), "river 00003"), 0);
        riverFault("river 3;", 8, SYNTAX);
        riverFault("river 3; ;", 9, SYNTAX);
        riverFault("river 3 3", 8, SYNTAX);
        riverFault("flow 0 1;river 3", 0, CLAUSE);
        riverFault("join 0 1", 0, SYNTAX);
        riverFault("riverz 3", 0, SYNTAX);
        riverFault("rivera 3", 0, SYNTAX);
        riverFault("riverZ 3", 5, SYNTAX);
        riverFault("river 3; river 3", 9, CLAUSE);
        riverFault("river 3;flow 0 3", 15, NUMBER);
        riverFault("river 3;flow 3 0", 13, NUMBER);
        riverFault("river 3;flow 1 1", 15, NUMBER);
        riverFault("river 3;flow 1", 14, SYNTAX);
        riverFault("river 3;mouth 3", 14, NUMBER);
        riverFault("river 3;eddy 1 0", 15, NUMBER);
        riverFault("river 3;eddy 1 10", 15, NUMBER);
        riverFault("river 3;net 1 0", 14, NUMBER);
        riverFault("river 3;net 1 1;net 1 2", 20, NUMBER);
        riverFault("river 3;mill 1a;mill 1b", 21, NUMBER);
        riverFault("river 3;dam 1;dam 1", 18, NUMBER);
        riverFault("river 3;mill 1 ab", 16, SYNTAX);
        riverFault("river 3;mill 1 gb", 15, SYNTAX);
        riverFault("river 3;mill 1 A", 15, SYNTAX);
        riverFault("river 3;scrap 1", 15, SYNTAX);
        riverFault("river 3;scrap 1 ab c", 19, SYNTAX);
        riverFault("river 3;scrap 1 abgdefabc", 18, SYNTAX);
        riverFault("river 3;scrap 1 abcdefabz", 24, SYNTAX);
        riverFault("river 3;scrap 1 ab1", 18, SYNTAX);
        riverFault("river 9" + mills(7), 7 + 9 * 6 + 1, CLAUSE);
        riverFault("river 9;dam 0;dam 1;dam 2;dam 3;dam x", 32, CLAUSE);
        riverFault("river 9;net 0 1;net 1 1;net 2 1;net 3 1;net 4 1;net 4 1", 48, CLAUSE);
        riverFault("river 9" + times(10, ";scrap 1 a") + ";scrap", 108, CLAUSE);
        due("40 clauses", tell(new PaperRiver(), "river 3" + times(39, ";mouth 1")), 0);
        riverFault("river 3" + times(40, ";mouth 1"), 7 + 8 * 39 + 1, CLAUSE);
        riverFault("river 3" + times(39, ";mouth 1") + ";mout 1", 7 + 8 * 39 + 1, SYNTAX);
        riverFault("river 3" + times(39, ";mouth 1") + "; ", 7 + 8 * 39 + 2, SYNTAX);
        due("10 scraps", tell(new PaperRiver(), "river 9" + times(10, ";scrap 1 a")), 10);
        due("6 mills", tell(new PaperRiver(), "river 9" + mills(6)), 0);
    }

    private static String mills(int n) {
        StringBuilder s = new StringBuilder();
        for (int i = 0; i < n; i++) {
            s.append(";mill ").append(i).append(" a");
        }
        return s.toString();
    }

    private static void rule() {
        PaperRiver x = new PaperRiver();
        for (int i = 0; i < 6; i++) {
            due("rule " + i, law(x, "join one<later"), i);
        }
        Texts.feed(x, "join 1=1");
        due("a seventh", x.rule(), -1);
        due("nothing happens", x.count(12), 8);
        due("count(5)", x.count(5), 6);
        ruleFault("", 0, SYNTAX);
        ruleFault("river 3", 0, SYNTAX);
        ruleFault("join", 4, SYNTAX);
        ruleFault("join 1", 6, SYNTAX);
        ruleFault("join 1=", 7, SYNTAX);
        ruleFault("join 1=1=1", 8, SYNTAX);
        ruleFault("join 1==1", 7, SYNTAX);
        ruleFault("join 1< =1", 8, SYNTAX);
        ruleFault("join 1=<1", 7, SYNTAX);
        ruleFault("join -1=1", 5, SYNTAX);
        ruleFault("join long+not=1", 10, SYNTAX);
        ruleFault("join nothing=1", 5, SYNTAX);
        ruleFault("join 1=1 andlong=1", 9, SYNTAX);
        ruleFault("join 123456=1", 5, NUMBER);
        ruleFault("join 1=1;", 9, SYNTAX);
        ruleFault("join [1=1", 9, SYNTAX);
        ruleFault("join [1=1]]", 10, SYNTAX);
        ruleFault("join [1]=1", 7, SYNTAX);
        due("no blanks are needed", law(new PaperRiver(), "join1=1and2=2or not[3=3]"), 0);
        due("ten deep", law(new PaperRiver(), "join " + times(10, "[") + "1=1" + times(10, "]")), 0);
        ruleFault("join " + times(11, "[") + "1=1", 15, DEEP);
        due("ten deep", law(new PaperRiver(), "join " + times(10, "not ") + "1=1"), 0);
        ruleFault("join " + times(10, "not ") + "not 1=1", 45, DEEP);
        ruleFault("join " + times(5, "not [") + "not 1=1", 30, DEEP);
        ruleFault("join " + times(10, "not ") + "nor 1=1", 45, SYNTAX);
        due("60 pieces", law(new PaperRiver(), "join 1" + times(58, "+1") + "=1"), fault(6 + 58 * 2 + 1, PIECES));
        due("60 pieces", law(new PaperRiver(), "join 1" + times(57, "+1") + "=1"), 0);
        ruleFault("join 1" + times(59, "+1") + "=1", 6 + 59 * 2, PIECES);
        ruleFault("join 1" + times(59, "+1") + "+x", 6 + 59 * 2 + 1, SYNTAX);
        ruleFault("join 1" + times(59, "+1") + "+123456", 6 + 59 * 2 + 1, NUMBER);
        ruleFault("join 1" + times(59, "+1") + "+1", 6 + 59 * 2 + 1, PIECES);
        due("12 clauses", law(new PaperRiver(), "join 1=1" + times(11, ";join 1=1")), 0);
        ruleFault("join 1=1" + times(12, ";join 1=1"), 8 + 11 * 9 + 1, CLAUSE);
        ruleFault("join 1=1" + times(11, ";join 1=1") + ";joy", 8 + 11 * 9 + 1, SYNTAX);
    }

    /** Whether 'ab' (0) and 'bcd' (1), which come into cell 1 (eddy of 3 days) on day 0, are joined by the rule. */
    private static boolean joins(String rule) {
        PaperRiver x = with("river 4;eddy 1 3;scrap 0 ab;scrap 0 bcd", rule);
        return x.day() == 1;
    }

    private static void words() {
        due("long", joins("join long=2"), true);
        due("other", joins("join other=3"), true);
        due("last", joins("join last=2"), true);
        due("first", joins("join first=2"), true);
        due("same", joins("join same=1"), true);
        due("cell", joins("join cell=1"), true);
        due("day", joins("join day=0"), true);
        due("one", joins("join one=0"), true);
        due("later", joins("join later=1"), true);
        due("many", joins("join many=2"), true);
        due("wait", joins("join wait=3"), true);
        due("times first", joins("join 1+2*3=7"), true);
        due("left to right", joins("join 10-2-3=5 and 100/5/2=10 and 7%4*2=6"), true);
        due("by 0", joins("join 5/0=0 and 5%0=0"), true);
        due("all of them", joins("join long+other+last+first+same+cell+day+one+later+many+wait=17"), true);
    }

    private static void tests() {
        due("towards 0", joins("join 0-7=0-7 and 2-9/2=0-2"), true);
        due("below 0", joins("join day-7+0<0"), true);
        due("and ahead of or", joins("join 1=1 or 1=1 and 1=2"), true);
        due("brackets", joins("join [1=1 or 1=1] and 1=2"), false);
        due("not", joins("join not 1=2"), true);
        due("not takes one fact", joins("join not 1=2 and 1=2"), false);
        due("not not", joins("join not not 1=2"), false);
        due("one clause of several", joins("join 1=2;join 2=2;join 3=2"), true);
        due("no clause", joins("join 1=2;join 2=1"), false);
        due("<", joins("join 1<1"), false);
        due("<=", joins("join 1<=1"), true);
        due(">=", joins("join 1>=1"), true);
        due(">", joins("join 1>1"), false);
        due("64 bits", joins("join 65536*65536*65536*32768<0"), true);
        due("goes round", joins("join 65536*65536*65536*65536=0"), true);
        due("the lowest by -1", joins("join 65536*65536*65536*32768/later%2=0"), true);
    }

    private static void force() {
        PaperRiver x = new PaperRiver();
        due("force(0)", x.force(0), -2);
        due("force(-2)", x.force(-2), -2);
        law(x, "join 1=1");
        law(x, "join 1=2");
        due("force(1)", x.force(1), -1);
        due("force(0)", x.force(0), 1);
        due("force(2)", x.force(2), -2);
        due("count(6)", x.count(6), 0);
        due("force(-1)", x.force(-1), 0);
        due("count(6)", x.count(6), -1);
        tell(x, "river 2;scrap 0 a;scrap 0 b");
        due("without a rule", x.ahead(1, 1, 2), 0);
        x.force(0);
        due("with one", x.ahead(1, 1, 2), 3);
        x.force(1);
        due("with another", x.ahead(1, 1, 2), 0);
        due("no act", x.undo(), -2);
    }

    private static void cell() {
        PaperRiver x = with("river 3;mouth 0;eddy 1 9;mill 2 e;dam 1;net 0 3;scrap 1 a;scrap 2 b;scrap 1 c");
        int[][] want = {{-1, 0, 0, 0, 3, 0}, {2, 9, 0, 1, 0, 5}, {-1, 0, 5, 0, 0, 2}};
        for (int cell = 0; cell < 3; cell++) {
            for (int what = 0; what < 6; what++) {
                due("cell(" + cell + ", " + what + ")", x.cell(cell, what), want[cell][what]);
            }
        }
        x.dam(1, false);
        due("shut", x.cell(1, 3), 2);
        due("cell(-1, 0)", x.cell(-1, 0), -2);
        due("cell(3, 0)", x.cell(3, 0), -2);
        due("cell(0, -1)", x.cell(0, -1), -2);
        due("cell(0, 6)", x.cell(0, 6), -2);
    }

    private static void scrap() {
        PaperRiver x = with("river 4;eddy 1 2;net 2 3;scrap 0 ab;scrap 0 bc;scrap 2 f;scrap 3 e");
        x.day();
        int[][] want = {{1, 1223, 2, 0, -1, -1}, {-1, 23, 0, 3, 0, 0}, {3, 6, 0, 0, -1, -1}, {-1, 5, 0, 1, -1, 0}};
        for (int scrap = 0; scrap < 4; scrap++) {
            for (int what = 0; what < 6; what++) {
                due("scrap(" + scrap + ", " + what + ")", x.scrap(scrap, what), want[scrap][what]);
            }
        }
        days(x, 3);
        due("caught", x.scrap(0, 3), 2);
        due("in the net of", x.scrap(0, 4), 2);
        due("on day", x.scrap(0, 5), 3);
        due("not on the river", x.scrap(0, 0), -1);
        due("scrap(4, 0)", x.scrap(4, 0), -2);
        due("scrap(-1, 0)", x.scrap(-1, 0), -2);
        due("scrap(0, -1)", x.scrap(0, -1), -2);
        due("scrap(0, 6)", x.scrap(0, 6), -2);
        whoLeftWaitsNoMore();
    }

    private static void whoLeftWaitsNoMore() {
        PaperRiver x = with("river 3;flow 2 0;eddy 1 2;scrap 0 a;scrap 2 f");
        x.drop(0, 1);
        x.day();
        due("the one has days to wait", x.scrap(0, 2), 2);
        due("joined", x.scrap(2, 3), 3);
        due("joined, it waits no more", x.scrap(2, 2), 0);
        due("undone", x.undo(), 1);
        due("undone, on the river", x.scrap(2, 3), 0);

        x = with("river 3;eddy 1 2;net 1 2;scrap 0 ab;scrap 0 c");
        x.day();
        due("caught", x.scrap(0, 3), 2);
        due("caught in an eddy, it waits no more", x.scrap(0, 2), 0);
        due("too small for the net, it waits", x.scrap(1, 2), 2);
        x.net(1, 1);
        x.day();
        due("caught while it waits", x.scrap(1, 3), 2);
        due("it waits no more", x.scrap(1, 2), 0);
        x.undo();
        due("undone, it waits again", x.scrap(1, 2), 2);
    }

    private static void day() {
        PaperRiver x = with("river 4;mill 1 a;mill 2 b;dam 0;scrap 0 cdefcde;scrap 1 b;scrap 2 f");
        x.dam(0, false);
        due("day 0", x.day(), 0);
        due("behind a dam that is shut", x.scrap(0, 0), 0);
        due("printed", x.scrap(1, 1), 22);
        x.dam(0, true);
        due("day 1", x.day(), 1);
        due("printed", x.scrap(0, 1), 34563451);
        x.day();
        due("no ninth letter", x.scrap(0, 1), 34563451);
        due("letters printed", x.count(9), 2);
        due("the day", x.count(7), 3);

        x = with("river 3;eddy 1 2;scrap 0 a");
        int[] places = {1, 1, 1, 2, -1};
        for (int i = 0; i < places.length; i++) {
            x.day();
            due("with an eddy, day " + i, x.scrap(0, 0), places[i]);
        }

        x = with("river 3;eddy 1 2;dam 1;scrap 0 a");
        x.day();
        x.dam(1, false);
        days(x, 5);
        due("behind a dam none waits", x.scrap(0, 2), 2);
    }

    private static void joinsOfADay() {
        PaperRiver x = with("river 3;scrap 0 ab;scrap 0 ca;scrap 0 bc;scrap 0 aa");
        due("the first two again and again", x.day(), 3);
        due("its text", x.scrap(0, 1), 12233111);
        due("joined", x.scrap(3, 4), 0);

        x = with("river 3;scrap 0 abcda;scrap 0 abcd;scrap 0 aaa");
        due("8 letters at most", x.day(), 1);
        due("its text", x.scrap(0, 1), 12341111);
        due("the other", x.scrap(1, 3), 0);

        x = with("river 3;scrap 0 a;scrap 0 b;scrap 0 c", "join many=3");
        due("how many are then", x.day(), 1);
        due("the others", x.scrap(2, 3), 0);

        x = with("river 3;net 1 2;scrap 0 a;scrap 0 a;scrap 0 b");
        due("nets are last", x.day(), 2);
        due("caught", x.scrap(0, 3), 2);
        due("joined", x.scrap(1, 3), 3);
        due("too small", x.scrap(2, 3), 0);

        x = with("river 3;mill 1 f;scrap 0 a;scrap 0 b", "join same=1");
        due("letters printed are the same too", x.day(), 1);

        x = with("river 3;net 0 1;scrap 0 a;flow 2 0");
        days(x, 999);
        due("day 999", x.count(7), 999);
        due("no day more", x.day(), -1);
        due("nothing happens", x.count(7), 999);
        due("without a river", new PaperRiver().day(), -1);
    }

    private static void drop() {
        PaperRiver x = with("river 3;mill 1 a;eddy 1 3");
        due("drop(3, 1)", x.drop(3, 1), -1);
        due("drop(-1, 1)", x.drop(-1, 1), -1);
        due("drop(0, 0)", x.drop(0, 0), -1);
        due("drop(0, -1)", x.drop(0, -1), -1);
        due("drop(0, 7)", x.drop(0, 7), -1);
        due("drop(0, 101)", x.drop(0, 101), -1);
        due("nine letters", x.drop(0, 111111111), -1);
        due("no act", x.count(10), 0);
        due("eight letters", x.drop(1, 66666666), 0);
        due("who is dropped does not come in", x.scrap(0, 2), 0);
        due("its text", x.scrap(0, 1), 66666666);
        due("its cell", x.scrap(0, 0), 1);
        for (int i = 1; i < 12; i++) {
            due("drop " + i, x.drop(0, 1), i);
        }
        due("a 13th", x.drop(0, 1), -1);
        days(x, 10);
        due("a 13th, though none is on the river", x.drop(0, 1), -1);
    }

    private static void tear() {
        PaperRiver x = with("river 3;eddy 1 3;scrap 0 abcde;scrap 0 f;scrap 2 ff");
        x.day();
        due("tear(0)", x.tear(0), 3);
        due("the former half", x.scrap(0, 1), 12);
        due("the latter half", x.scrap(3, 1), 345);
        due("its cell", x.scrap(3, 0), 1);
        due("waits as long", x.scrap(3, 2), 3);
        due("one letter", x.tear(1), -1);
        due("not on the river", x.tear(2), -1);
        due("none such", x.tear(4), -1);
        due("none such", x.tear(-1), -1);
        for (int i = 4; i < 12; i++) {
            x.drop(0, 12);
        }
        due("there are 12", x.tear(0), -1);
    }

    private static void dam() {
        PaperRiver x = with("river 3;dam 1");
        due("no dam", x.dam(0, false), false);
        due("no cell", x.dam(3, false), false);
        due("no cell", x.dam(-1, true), false);
        due("it is open", x.dam(1, true), false);
        due("no act", x.count(10), 0);
        due("shut", x.dam(1, false), true);
        due("it is shut", x.dam(1, false), false);
        due("opened", x.dam(1, true), true);
        due("acts", x.count(10), 2);
    }

    private static void net() {
        PaperRiver x = with("river 8;net 2 4");
        due("it is so", x.net(2, 4), -1);
        due("another mesh", x.net(2, 8), 4);
        due("too large", x.net(2, 9), -1);
        due("too small", x.net(2, -1), -1);
        due("no cell", x.net(8, 1), -1);
        due("no cell", x.net(-1, 1), -1);
        due("none to take away", x.net(0, 0), -1);
        for (int cell = 3; cell < 7; cell++) {
            due("set", x.net(cell, 1), 0);
        }
        due("a sixth", x.net(7, 1), -1);
        due("another mesh of five", x.net(6, 2), 1);
        due("taken away", x.net(6, 0), 2);
        due("a fifth", x.net(7, 1), 0);
        due("count(3)", x.count(3), 5);
    }

    private static void undo() {
        PaperRiver x = with("river 4;mill 1 a;dam 2;net 3 5;scrap 0 bb;scrap 1 c");
        due("none", x.undo(), -2);
        x.day();
        x.drop(0, 2);
        x.tear(0);
        x.dam(2, false);
        x.net(3, 0);
        due("net", x.undo(), 4);
        due("net", x.cell(3, 4), 5);
        due("dam", x.undo(), 3);
        due("dam", x.cell(2, 3), 1);
        due("tear", x.undo(), 2);
        due("tear", x.scrap(0, 1), 221);
        due("drop", x.undo(), 1);
        due("drop", x.count(4), 2);
        due("day", x.undo(), 0);
        due("day", x.count(7), 0);
        due("printed", x.count(9), 0);
        due("text", x.scrap(0, 1), 22);
        due("place", x.scrap(0, 0), 0);
        due("none", x.undo(), -2);
        days(x, 25);
        for (int left = 19; left >= 0; left--) {
            due("undo", x.undo(), left);
        }
        due("the last 20", x.count(7), 5);
        due("none", x.undo(), -2);
    }

    private static void ahead() {
        PaperRiver x = with("river 4;mill 1 c;scrap 0 ab;scrap 0 c;scrap 3 f");
        due("now", x.ahead(0, 0, 1), 12);
        due("then", x.ahead(0, 1, 1), 12333);
        due("cell", x.ahead(0, 1, 0), 1);
        due("joined", x.ahead(1, 1, 2), 3);
        due("its text as it was when it joined", x.ahead(1, 5, 1), 33);
        due("sea", x.ahead(2, 60, 2), 1);
        due("sea", x.ahead(2, 60, 0), -1);
        due("nothing changes", x.count(7), 0);
        due("n 61", x.ahead(0, 61, 0), -2);
        due("n -1", x.ahead(0, -1, 0), -2);
        due("scrap 3", x.ahead(3, 0, 0), -2);
        due("scrap -1", x.ahead(-1, 0, 0), -2);
        due("what 3", x.ahead(0, 0, 3), -2);
        due("what -1", x.ahead(0, 0, -1), -2);
    }

    private static void mouth() {
        PaperRiver x = with("river 3;mill 2 d;scrap 0 a;scrap 1 b;scrap 1 c;scrap 2 f;flow 0 1");
        x.day();
        due("which", x.mouth(0, 0), 1);
        due("the day", x.mouth(0, 1), 1);
        due("its text", x.mouth(0, 2), 24);
        due("of one day by numbers", x.mouth(1, 0), 2);
        due("the third", x.mouth(2, 0), 0);
        due("the day", x.mouth(2, 1), 2);
        due("no more", x.mouth(3, 0), -2);
        due("far too many", x.mouth(2147483647, 2), -2);
        due("k -1", x.mouth(-1, 0), -1);
        due("what 3", x.mouth(0, 3), -1);
        due("what -1", x.mouth(0, -1), -1);
        x = with("river 6;eddy 1 9;eddy 2 9;eddy 3 9;eddy 4 9;eddy 5 9;scrap 0 a");
        due("in the 51st day", x.mouth(0, 1), 50);
        x = with("river 7;eddy 1 9;eddy 2 9;eddy 3 9;eddy 4 9;eddy 5 9;eddy 6 9;scrap 0 a");
        due("in the 61st day", x.mouth(0, 0), -2);
        x = with("river 7;eddy 1 9;eddy 2 9;eddy 3 9;eddy 4 9;eddy 5 9;eddy 6 8;scrap 0 a");
        due("in the 60th day", x.mouth(0, 1), 59);
    }

    private static void fleet() {
        PaperRiver x = with("river 9;mouth 2;mouth 5;scrap 0 a;scrap 3 b;scrap 6 c;scrap 8 d");
        due("one", x.fleet(1, 0), 1);
        due("the least", x.fleet(1, 1), 2);
        due("two", x.fleet(3, 1), 2 + 16);
        due("three", x.fleet(7, 0), 3);
        due("three", x.fleet(7, 1), 2 + 16 + 128);
        due("lost at once", x.fleet(8, 0), -2);
        due("none wanted", x.fleet(0, 0), 0);
        due("none such", x.fleet(16, 0), -1);
        due("below 0", x.fleet(-1, 0), -1);
        due("what 2", x.fleet(0, 2), -1);
        due("what -1", x.fleet(0, -1), -1);
        due("nothing changes", x.count(3), 0);
        x.day();
        due("not on the river", x.fleet(8, 0), -1);

        x = with("river 12;mouth 2;mouth 5;mouth 8;scrap 0 a;scrap 3 b;scrap 6 c;scrap 9 d");
        due("four would be needed", x.fleet(15, 0), -2);
        x.net(4, 1);
        due("one is got anyway", x.fleet(15, 0), 3);
        due("not where a net is", x.fleet(15, 1), 2 + 128 + 1024);

        x = with("river 5;mouth 1;flow 2 0;scrap 2 ab;scrap 2 b");
        due("joined to one that is", x.fleet(2, 1), 1);
        String slow = "river 9;eddy 1 9;eddy 2 9;eddy 3 9;eddy 4 9;eddy 5 9;net 7 1;scrap 0 a;eddy 6 ";
        due("got on the 60th day", with(slow + "8").fleet(1, 0), 0);
        due("got on the 61st day", with(slow + "9").fleet(1, 1), 2);
        x = with("river 16;flow 0 13;mouth 13;flow 1 14;mouth 14;flow 2 15;scrap 0 a;scrap 1 b;scrap 2 c");
        due("the last set of three", x.fleet(7, 1), 57344);
        x = with("river 4;net 1 2;scrap 0 a;scrap 0 a");
        due("joined, caught anyway", x.fleet(2, 0), 0);
        x = with("river 4;net 1 2;scrap 0 a;scrap 0 b");
        due("of several the least", x.fleet(3, 1), 4);
    }

    private static void put() {
        PaperRiver x = with("river 4;flow 0 2;scrap 0 a;scrap 3 b");
        due("in cells 0 and 1", x.put(3, 2, 1, 0), 2);
        due("the first", x.put(3, 2, 1, 1), 0);
        due("joined to another", x.put(1, 2, 1, 0), 0);
        due("beside another", with("river 3;scrap 0 a").put(21, 1, 1, 1), 0);
        due("nowhere", x.put(3, 0, 1, 0), 0);
        due("nowhere", x.put(3, 0, 1, 1), -2);
        due("n 0", x.put(3, 2, 0, 0), -1);
        due("n 61", x.put(3, 2, 61, 0), -1);
        due("n 60", x.put(3, 2, 60, 0), 0);
        due("cell 4", x.put(3, 4, 1, 0), -1);
        due("text 7", x.put(7, 2, 1, 0), -1);
        due("text 0", x.put(0, 2, 1, 0), -1);
        due("what 2", x.put(3, 2, 1, 2), -1);
        due("what -1", x.put(3, 2, 1, -1), -1);
        for (int i = 2; i < 12; i++) {
            x.drop(3, 6);
        }
        due("12 are no bar", x.put(3, 2, 1, 0), 2);
        due("nothing changes", x.count(4), 12);
        x = with("river 3;net 1 1", "join 1=1");
        due("caught", x.put(1, 1, 1, 0), 0);
        x = with("river 3;dam 2");
        x.dam(2, false);
        due("held by a dam", x.put(1, 2, 60, 0), 3);
    }

    private static void rows() {
        PaperRiver x = with("river 2;scrap 0 ab;scrap 1 ba;scrap 1 bb;scrap 1 aa;scrap 1 cd");
        due("ab ba", x.rows(3, 0), 2);
        due("ab bb ba", x.rows(7, 0), 3);
        due("1 of the first", x.rows(7, 1), 0);
        due("2 of the first", x.rows(7, 2), 2);
        due("3 of the first", x.rows(7, 3), 1);
        due("so many it has not", x.rows(7, 4), -2);
        due("none", x.rows(17, 0), 0);
        due("none", x.rows(17, 1), -2);
        due("one", x.rows(16, 0), 1);
        due("one", x.rows(16, 1), 4);
        due("the empty order", x.rows(0, 0), 1);
        due("the empty order", x.rows(0, 12), -2);
        due("what 13", x.rows(3, 13), -1);
        due("what -1", x.rows(3, -1), -1);
        due("none such", x.rows(32, 0), -1);
        due("below 0", x.rows(-1, 0), -1);
        x.day();
        due("not on the river", x.rows(3 << 1 | 8, 0), 1);
        x = with("river 2" + times(9, ";scrap 0 aa"));
        due("eight", x.rows(255, 0), 40320);
        due("eight", x.rows(510, 8), 8);
        due("nine", x.rows(511, 0), -1);
    }

    private static void seen() {
        PaperRiver x = with("river 4;mill 1 c;eddy 2 1;net 1 1");
        due("abc", x.seen(123, 1, 0), 2);
        due("the first", x.seen(123, 1, 1), 1);
        due("days ago", x.seen(123, 1, 2), 0);
        due("ab", x.seen(12, 1, 0), 1);
        due("c alone cannot come of nothing", x.seen(3, 1, 0), 1);
        due("a shut dam, an eddy", x.seen(13, 2, 0), 5);
        due("not printed by the mill", x.seen(12, 2, 0), 3);
        due("eight letters", x.seen(11111111, 2, 0), 5);
        due("text 8", x.seen(8, 2, 0), -1);
        due("cell 4", x.seen(1, 4, 0), -1);
        due("what 3", x.seen(1, 1, 3), -1);
        due("what -1", x.seen(1, 1, -1), -1);
        x = with("river 2;dam 1");
        x.dam(1, false);
        due("0 to 20 days ago", x.seen(1, 1, 0), 21 + 20);
        due("none", new PaperRiver().seen(1, 0, 0), -1);
    }

    private static void gates() {
        PaperRiver x = with("river 6;dam 1;dam 3;mouth 2;scrap 0 a;scrap 3 c;scrap 5 e");
        due("three days", x.gates(3, 0), 3);
        due("three days", x.gates(3, 1), 3);
        due("one day", x.gates(1, 0), 0);
        due("one day", x.gates(1, 1), 1);
        x.day();
        due("those in the sea already", x.gates(1, 1), 1);
        due("the second is behind already", x.gates(2, 0), 1);
        due("with those in the sea already", x.gates(2, 1), 3);
        x.dam(1, false);
        due("as they are is of no matter", x.gates(2, 0), 1);
        due("n 0", x.gates(0, 0), -1);
        due("n 61", x.gates(61, 0), -1);
        due("what 2", x.gates(1, 2), -1);
        due("what -1", x.gates(1, -1), -1);
        x = with("river 3;dam 0;scrap 0 ab;scrap 1 a");
        due("without joins more come", x.gates(60, 1), 2);
        x = with("river 4;dam 1;scrap 0 a;scrap 0 b", "join day>2");
        due("shut they would join", x.gates(60, 0), 1);
    }

    private static void round() {
        PaperRiver x = with("river 6;flow 4 2;flow 0 5");
        due("a ring", x.round(2, 0), 3);
        due("in it", x.round(2, 1), 0);
        due("after one", x.round(1, 1), 1);
        due("the same ring", x.round(1, 0), 3);
        due("to the sea", x.round(0, 0), 0);
        due("to the sea", x.round(0, 1), 2);
        due("to the sea", x.round(5, 1), 1);
        due("cell 6", x.round(6, 0), -1);
        due("cell -1", x.round(-1, 0), -1);
        due("what 2", x.round(0, 2), -1);
        due("what -1", x.round(0, -1), -1);
        x = with("river 16;flow 15 0");
        due("sixteen", x.round(7, 0), 16);
        due("sixteen to the sea", with("river 16").round(0, 1), 16);
    }

    private static void share() {
        PaperRiver x = with("river 5;mill 1 a;mill 2 b;mill 0 c;scrap 0 ab;scrap 1 fb;scrap 1 de");
        due("none printed", x.share(0, 0), 0);
        due("none printed", x.share(0, 1), 1);
        x.day();
        due("1 of 3", x.share(0, 0), 1);
        due("1 of 3", x.share(0, 1), 3);
        x.day();
        due("1 of 4", x.share(0, 1), 4);
        due("3 of 4", x.share(1, 0), 3);
        due("0 of 1", x.share(2, 0), 0);
        due("0 of 1", x.share(2, 1), 1);
        x.drop(0, 5);
        x.drop(0, 6);
        x.day();
        due("3 of 6", x.share(0, 0), 1);
        due("3 of 6", x.share(0, 1), 2);
        due("mill 3", x.share(3, 0), -1);
        due("mill -1", x.share(-1, 0), -1);
        due("part 2", x.share(0, 2), -1);
        due("part -1", x.share(0, -1), -1);
    }

    private static void seed() {
        PaperRiver x = new PaperRiver();
        due("at first", x.seed(5), 0);
        due("below 0", x.seed(-1), -1);
        due("stays", x.seed(2147483647), 5);
        due("count(11)", x.count(11), 2147483647);
        due("0", x.seed(0), 2147483647);
    }

    private static void years() {
        // drawn from 0 on with two cells: 0 a, 0 b, 0 b, 1 b, 0 e, 1 e, 1 c, 1 d, 0 b, 0 d
        PaperRiver x = with("river 2;scrap 0 a;scrap 1 b");
        due("into the sea", x.years(1, 1, 0), 1);
        due("joined", x.years(1, 1, 2), 1);
        due("caught", x.years(1, 1, 1), 0);
        due("each time begins now", x.years(9, 1, 0), 13);
        due("drawn ahead of each day", x.years(1, 3, 0), 3);
        due("drawn ahead of each day", x.years(1, 3, 2), 1);
        due("x goes on from time to time", x.years(2, 2, 0), 6);
        due("x goes on from time to time", x.years(2, 2, 2), 1);
        x.net(1, 1);
        due("caught", x.years(3, 1, 1), 5);
        due("past the net", x.years(3, 1, 0), 3);
        due("joined ahead of the net", x.years(3, 1, 2), 1);
        due("x as it was", x.count(11), 0);
        due("nothing changes", x.count(4), 2);
        due("nothing changes", x.count(7), 0);
        due("nothing changes", x.count(8), 3);
        due("m 0", x.years(0, 1, 0), -1);
        due("m 11", x.years(11, 1, 0), -1);
        due("n 0", x.years(1, 0, 0), -1);
        due("n 61", x.years(1, 61, 0), -1);
        due("what 3", x.years(1, 1, 3), -1);
        due("what -1", x.years(1, 1, -1), -1);
        due("no river", new PaperRiver().years(1, 1, 0), -1);
        yearsWithAFewPlaces();
        yearsByTheDay();
    }

    private static void yearsWithAFewPlaces() {
        PaperRiver x = with("river 2;net 1 1");
        for (int i = 0; i < 11; i++) {
            x.drop(1, 6);
        }
        due("all leave", x.day(), 11);
        // of the first time only the a comes in (caught), of the second the b in cell 1, the fourth that is drawn
        due("both are drawn anyway", x.years(2, 3, 0), 1);
        due("both are drawn anyway", x.years(2, 3, 1), 1);
        due("the second day is drawn, too", x.years(2, 1, 1), 2);
        x.drop(1, 6);
        due("who left counts among 12", x.years(10, 60, 1), 0);
        due("the twelfth, each time", x.years(10, 60, 0), 10);
        x = with("river 3;scrap 2 f");
        x.seed(1);
        // drawn from 1 on with three cells: 2 e, 0 b, 1 f
        due("another x", x.years(1, 1, 0), 2);
        due("another x", x.years(2, 1, 0), 3);
        due("x stays", x.count(11), 1);
    }

    private static void yearsByTheDay() {
        PaperRiver x = with("river 2;scrap 0 a;scrap 0 b", "join day=0");
        due("the day is this one each time", x.years(3, 1, 2), 6);
        x = with("river 2;scrap 0 a;scrap 0 b", "join day=1");
        due("the next day is not come to", x.years(10, 1, 2), 0);
        x = with("river 2;flow 1 0;scrap 0 a;scrap 0 b", "join day=999");
        days(x, 998);
        due("not yet", x.years(1, 1, 2), 0);
        due("the last day", x.years(1, 2, 2), 2);
        due("999 at most", x.years(1, 3, 2), 3);
    }

    private static void count() {
        PaperRiver x = with("river 5;mill 1 a;dam 2;dam 3;net 4 8;scrap 0 b;scrap 4 c;scrap 3 d");
        law(x, "join 1=2");
        x.force(0);
        x.seed(9);
        x.day();
        x.drop(2, 1);
        x.feed(0, 0, 0, 0, 0);
        int[] want = {5, 1, 2, 1, 4, 1, 0, 1, 1 + 4 + 8, 1, 2, 9, 20};
        for (int what = 0; what < want.length; what++) {
            due("count(" + what + ")", x.count(what), want[what]);
        }
        due("count(13)", x.count(13), -1);
        due("count(-1)", x.count(-1), -1);
    }

    private static void image() {
        PaperRiver x = new PaperRiver();
        due("image(-1)", x.image(-1), -1);
        due("image(4)", x.image(4), -1);
        due("without a river", x.image(3), 0);
        tell(x, "river 3;scrap 0 a");
        days(x, 2);
        due("the day", x.image(0), 2);
        x.day();
        due("made again", x.image(0), 3);
        due("back", x.back(0), 3);
    }

    private static void back() {
        PaperRiver x = with("river 4;mill 1 a;dam 1;net 2 5;scrap 0 b");
        due("never made", x.back(0), -1);
        due("back(4)", x.back(4), -1);
        due("back(-1)", x.back(-1), -1);
        law(x, "join 1=1");
        x.force(0);
        x.seed(4);
        x.day();
        x.drop(0, 3);
        x.image(2);
        x.force(-1);
        x.seed(5);
        x.undo();
        x.undo();
        tell(x, "river 2");
        law(x, "join 1=2");
        x.feed(0, 0, 0, 0, 0);
        due("back", x.back(2), 1);
        due("the river", x.count(0), 4);
        due("mills", x.cell(1, 2), 1);
        due("dams", x.cell(1, 3), 1);
        due("nets", x.cell(2, 4), 5);
        due("scraps", x.scrap(0, 1), 21);
        due("the rule in force", x.count(6), 0);
        due("x", x.count(11), 4);
        due("rules stay", x.count(5), 2);
        due("the tape stays", x.count(12), 20);
        due("what can be undone", x.count(10), 2);
        due("undo", x.undo(), 1);
        due("undo", x.undo(), 0);
        due("undone", x.scrap(0, 1), 2);
        due("the image stays", x.back(2), 1);
        due("with what can be undone", x.count(10), 2);
        x = with("river 4;scrap 0 b");
        days(x, 30);
        x.image(0);
        days(x, 3);
        x.back(0);
        for (int left = 19; left >= 0; left--) {
            due("undo", x.undo(), left);
        }
        due("20 of 30", x.count(7), 10);
    }

    public static void main(String[] args) {
        Runnable[] promises = {PromisesTest::newObject, PromisesTest::feed, PromisesTest::end, () -> {
            river();
            riverFaults();
        }, () -> {
            rule();
            words();
            tests();
        }, PromisesTest::force, PromisesTest::cell, PromisesTest::scrap, () -> {
            day();
            joinsOfADay();
        }, PromisesTest::drop, PromisesTest::tear, PromisesTest::dam, PromisesTest::net, PromisesTest::undo,
            PromisesTest::ahead, PromisesTest::mouth, PromisesTest::fleet, PromisesTest::put, PromisesTest::rows,
            PromisesTest::seen, PromisesTest::gates, PromisesTest::round, PromisesTest::share, PromisesTest::seed,
            PromisesTest::years, PromisesTest::count, PromisesTest::image, PromisesTest::back};
        for (int i = 0; i < promises.length; i++) {
            promise = i + 1;
            promises[i].run();
        }
        System.out.println(wrong == 0 ? "all promises are kept" : wrong + " answers are not as due");
        if (wrong != 0) {
            System.exit(1);
        }
    }
}
