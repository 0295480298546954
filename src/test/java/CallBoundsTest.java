import java.util.function.Supplier;

/** The bounds of the calls that feed, look and keep: a new object, the TAPE, cells, SCRAPS, counts, IMAGES; any numbers. */
public final class CallBoundsTest {
    private static final int LOWEST = Integer.MIN_VALUE;
    private static final int HIGHEST = Integer.MAX_VALUE;
    private static final int[] EDGES = {LOWEST, LOWEST + 1, -2, -1, 0, 1, 2, 5, 11, 12, 16, 60, 61, 4095, 66666666,
        HIGHEST - 1, HIGHEST};

    private CallBoundsTest() {
    }

    private static void newObject() {
        PaperRiver x = new PaperRiver();
        for (int what = 0; what <= 12; what++) {
            Due.is("count(" + what + ")", x.count(what), what == 6 ? -1 : 0);
        }
        Due.is("no cell", x.cell(0, 0), -2);
        Due.is("no scrap", x.scrap(0, 0), -2);
        Due.is("no rule", x.force(0), -2);
        for (int k = 0; k < 4; k++) {
            Due.is("no image " + k, x.back(k), -1);
        }
        PaperRiver other = Rivers.rich();
        Due.is("of another one nothing", new PaperRiver().count(0) + other.count(0), 6);
    }

    private static void highestFirst() {
        PaperRiver x = new PaperRiver();
        Due.is("20 bytes", x.feed(0x72697665, 0x7220333b, 0x73637261, 0x70203020, 0x61626364), 20);
        Due.is("river 3;scrap 0 abcd", x.river(), 1);
        Due.is("its text", x.scrap(0, 1), 1234);
        Due.is("behind the tape", x.feed(0x6a6f696e, 0x206f6e65, 0x3d303020, 0x20202020, 0x20202020), 20);
        Due.is("behind the tape", x.feed(0x3b6a6f69, 0x6e20313d, 0x31202020, 0x20202020, 0xffffffff), 40);
        Due.is("the byte 255", x.rule(), Rivers.fault(36, Rivers.SYNTAX));
    }

    private static PaperRiver taped(int bytes) {
        PaperRiver x = new PaperRiver();
        Texts.feed(x, " ".repeat(bytes - 7) + "river 2");
        return x;
    }

    private static void tapeOf400() {
        PaperRiver x = new PaperRiver();
        for (int bytes = 20; bytes <= 400; bytes += 20) {
            Due.is("feed", x.feed(0, 0, 0, 0, 0), bytes);
            Due.is("count(12)", x.count(12), bytes);
        }
        Due.is("from 380 on", taped(380).feed(0, 0, 0, 0, 0), 400);
        for (int bytes : new int[] {381, 382, 399, 400}) {
            Twins.refused("feed behind " + bytes, () -> taped(bytes), y -> y.feed(0x20202020, 0, 0, 0, 0), -1);
        }
    }

    private static void firstBytesAlone() {
        PaperRiver x = taped(400);
        for (int n : new int[] {400, 399, 20, 19, 1, 0, 0}) {
            Due.is("end(" + n + ")", x.end(n), n);
            Due.is("count(12)", x.count(12), n);
        }
        Texts.feed(x, "river 2;dam 1");
        x.end(7);
        Due.is("the first seven", x.river(), 0);
        Due.is("no dam", x.count(2), 0);
    }

    /** What stood behind the end before is no part of any word, number, sign or of LETTERS. */
    private static void nothingOfWhatStoodBehind() {
        String[] rules = {"join 1=one|later", "join 1=1|2", "join 1<|=1", "join 1=1 and|y", "join not| 1=1", "join 1=one| and"};
        int[] due = {0, 0, Rivers.fault(7, Rivers.SYNTAX), Rivers.fault(12, Rivers.SYNTAX), Rivers.fault(8, Rivers.SYNTAX), 0};
        for (int i = 0; i < rules.length; i++) {
            PaperRiver x = new PaperRiver();
            Texts.feed(x, rules[i].replace("|", ""));
            x.end(rules[i].indexOf('|'));
            Due.is("rule() of " + rules[i], x.rule(), due[i]);
        }
        PaperRiver x = new PaperRiver();
        Texts.feed(x, "river 2;scrap 1 abc;dam 1");
        x.end(18);
        x.river();
        Due.is("of LETTERS", x.scrap(0, 1), 12);
        Texts.feed(x, "river 16");
        x.end(7);
        Due.is("of a NUMBER", x.river(), Rivers.fault(6, Rivers.NUMBER));
    }

    private static void theLastOf400() {
        String[] ends = {"join 1<", "join 1=", "join not", "join", "join 1=1 and", "join [", "join 1=1;", "join 1+"};
        for (String end : ends) {
            Rivers.ruleFault(" ".repeat(400 - end.length()) + end, 400, Rivers.SYNTAX);
        }
        Rivers.ruleIs(" ".repeat(392) + "join 1=1", 0);
        Rivers.ruleIs(" ".repeat(389) + "join 1=many", 0);
        Rivers.riverFault(" ".repeat(389) + "river 2;dam", 400, Rivers.SYNTAX);
        Rivers.riverFault(" ".repeat(385) + "river 2;scrap 0", 400, Rivers.SYNTAX);
        Rivers.riverIs(" ".repeat(383) + "river 2;scrap 0 a", 1);
        Rivers.riverFault(" ".repeat(395) + "river", 400, Rivers.SYNTAX);
    }

    private static void endWithoutThese() {
        for (int n : new int[] {-1, 21, 400, 401, LOWEST, HIGHEST}) {
            Twins.refused("end(" + n + ") of 20", () -> taped(20), x -> x.end(n), -1);
        }
        Twins.refused("end(1) of none", PaperRiver::new, x -> x.end(1), -1);
        Twins.refused("end(401) of 400", () -> taped(400), x -> x.end(401), -1);
        Due.is("end(0) of none", new PaperRiver().end(0), 0);
    }

    private static void cells() {
        PaperRiver x = Rivers.with("river 16;mouth 0;eddy 1 9;eddy 2 1;mill 3 a;mill 4 f;dam 5;dam 6;net 7 1;net 8 8;"
            + "scrap 15 a;scrap 15 b;scrap 14 c");
        x.dam(6, false);
        Due.is("the sea", x.cell(0, 0), -1);
        Due.is("a cell", x.cell(14, 0), 15);
        Due.is("the last", x.cell(15, 0), -1);
        Due.is("eddies", x.cell(0, 1) * 100 + x.cell(1, 1) * 10 + x.cell(2, 1), 91);
        Due.is("mills", x.cell(2, 2) * 100 + x.cell(3, 2) * 10 + x.cell(4, 2), 16);
        Due.is("dams", x.cell(4, 3) * 100 + x.cell(5, 3) * 10 + x.cell(6, 3), 12);
        Due.is("nets", x.cell(6, 4) * 100 + x.cell(7, 4) * 10 + x.cell(8, 4), 18);
        Due.is("scraps", x.cell(15, 5), 3);
        Due.is("scraps", x.cell(14, 5), 4);
        Due.is("scraps", x.cell(0, 5), 0);
        for (int i = 3; i < 12; i++) {
            x.drop(0, 12);
        }
        Due.is("up to the 12th", x.cell(0, 5), 4095 - 7);
    }

    private static void cellsWithoutThese() {
        PaperRiver x = Rivers.with("river 3");
        for (int what = 0; what <= 5; what++) {
            for (int cell : new int[] {-1, 3, 15, 16, LOWEST, HIGHEST}) {
                Due.is("cell(" + cell + ", " + what + ")", x.cell(cell, what), -2);
            }
            Due.is("without a river", new PaperRiver().cell(0, what), -2);
        }
        for (int what : new int[] {-1, 6, LOWEST, HIGHEST}) {
            Due.is("what " + what, x.cell(0, what), -2);
        }
        Due.is("cell 15 of 16", Rivers.with("river 16").cell(15, 1), 0);
        Due.is("cell 16 of 16", Rivers.with("river 16").cell(16, 1), -2);
    }

    private static void scraps() {
        PaperRiver x = Rivers.with("river 4;eddy 1 9;net 2 1;scrap 0 ab;scrap 0 bc;scrap 1 f;scrap 3 e;scrap 0 cccccc");
        x.day();
        int[][] want = {{1, 1223, 9, 0, -1, -1}, {-1, 23, 0, 3, 0, 0}, {-1, 6, 0, 2, 2, 0}, {-1, 5, 0, 1, -1, 0},
            {1, 333333, 9, 0, -1, -1}};
        for (int scrap = 0; scrap < want.length; scrap++) {
            for (int what = 0; what <= 5; what++) {
                Due.is("scrap(" + scrap + ", " + what + ")", x.scrap(scrap, what), want[scrap][what]);
            }
        }
    }

    private static void scrapsWithoutThese() {
        PaperRiver x = Rivers.with("river 3;scrap 0 a");
        for (int what = 0; what <= 5; what++) {
            for (int scrap : new int[] {-1, 1, 11, 12, 13, LOWEST, HIGHEST}) {
                Due.is("scrap(" + scrap + ", " + what + ")", x.scrap(scrap, what), -2);
            }
            Due.is("without a river", new PaperRiver().scrap(0, what), -2);
            Due.is("a 13th", Rivers.crowded().scrap(12, what), -2);
        }
        for (int what : new int[] {-1, 6, LOWEST, HIGHEST}) {
            Due.is("what " + what, x.scrap(0, what), -2);
        }
        x.drop(0, 1);
        x.undo();
        Due.is("undone", x.scrap(1, 1), -2);
        Due.is("the 12th", Rivers.crowded().scrap(11, 1), 12);
    }

    private static void counts() {
        PaperRiver x = Rivers.rich();
        int[] want = {6, 2, 2, 2, 6, 2, 0, 1, 1 + 2 + 4 + 16 + 32, 3, 5, 77, 18};
        for (int what = 0; what < want.length; what++) {
            Due.is("count(" + what + ")", x.count(what), want[what]);
        }
        for (int what : new int[] {-1, 13, -2, LOWEST, HIGHEST}) {
            Due.is("count(" + what + ")", x.count(what), -1);
        }
        x = Rivers.with("river 2");
        for (int i = 0; i < 12; i++) {
            x.drop(0, 12);
        }
        Due.is("all 12 on the river", x.count(8), 4095);
    }

    private static void images() {
        PaperRiver x = Rivers.with("river 3;scrap 0 a");
        for (int k = 0; k < 4; k++) {
            Due.is("image(" + k + ")", x.image(k), k);
            x.day();
        }
        for (int k = 3; k >= 0; k--) {
            Due.is("back(" + k + ")", x.back(k), k);
            Due.is("the day", x.count(7), k);
            Due.is("where it is", x.scrap(0, 0), k < 3 ? k : -1);
        }
        Due.is("made anew", x.image(3), 0);
        x.day();
        Due.is("the old one is gone", x.back(3), 0);
        Due.is("without a river", new PaperRiver().image(0), 0);
    }

    private static void imagesWithoutThese() {
        for (int k : new int[] {-1, 4, LOWEST, HIGHEST}) {
            Twins.refused("image(" + k + ")", Rivers::rich, x -> x.image(k), -1);
            Twins.refused("back(" + k + ")", Rivers::rich, x -> x.back(k), -1);
        }
        Twins.refused("back(2), never made", Rivers::rich, x -> x.back(2), -1);
        Twins.refused("back(3), never made", Rivers::rich, x -> x.back(3), -1);
        Twins.refused("back(0), never made", PaperRiver::new, x -> x.back(0), -1);
    }

    /** Behind an image and whatever else, all is as it was, but for the rules and the tape. */
    private static void gone() {
        Twins.unchanged("image, acts, back", () -> {
            PaperRiver x = Rivers.rich();
            x.image(3);
            return x;
        }, x -> {
            x.seed(5);
            x.force(1);
            Rivers.days(x, 3);
            x.undo();
            x.drop(0, 6);
            x.tear(0);
            x.dam(3, false);
            x.net(5, 1);
            return x.back(3);
        });
        PaperRiver x = Rivers.rich();
        x.image(3);
        Due.is("another river", x.river(), 1);
        Texts.feed(x, "join 2=2");
        x.rule();
        x.feed(0, 0, 0, 0, 0);
        Due.is("back", x.back(3), 1);
        Due.is("the river", x.count(0), 6);
        Due.is("what can be undone", x.count(10), 5);
        Due.is("the rules stay", x.count(5), 3);
        Due.is("the tape stays", x.count(12), 20);
        Due.is("the rule of then is in force", x.count(6), 0);
    }

    private static void imagesKeepTwentyActs() {
        PaperRiver x = Rivers.with("river 3");
        for (int act = 1; act <= 33; act++) {
            x.net(0, 1 + act % 8);
        }
        x.image(0);
        for (int act = 0; act < 7; act++) {
            x.undo();
        }
        x.drop(0, 1);
        Due.is("back", x.back(0), 0);
        for (int left = 19; left >= 0; left--) {
            Due.is("how many more", x.undo(), left);
            Due.is("as it was", x.cell(0, 4), 1 + (left + 13) % 8);
        }
        Due.is("none more", x.undo(), -2);
    }

    private static void imagesStay() {
        PaperRiver x = Rivers.with("river 3;scrap 0 a");
        x.image(0);
        for (int time = 0; time < 3; time++) {
            Rivers.days(x, 2);
            x.drop(1, 2);
            Due.is("back", x.back(0), 0);
            Due.is("scraps", x.count(4), 1);
            Due.is("where it is", x.scrap(0, 0), 0);
            Due.is("acts", x.count(10), 0);
        }
        x.day();
        x.image(1);
        x.undo();
        Due.is("undone", x.count(7), 0);
        Due.is("undo is of no matter to it", x.back(1), 1);
        Due.is("it can be undone again", x.undo(), 0);
    }

    private static void the512thCall() {
        PaperRiver x = new PaperRiver();
        x.feed(0x72697665, 0x72203136, 0x3b666c6f, 0x77203135, 0x20303b73);
        x.feed(0x63726170, 0x20302061, 0x20202020, 0x20202020, 0x20202020);
        x.river();
        Rivers.days(x, 508);
        Due.is("the 512th call", x.scrap(0, 0), 508 % 16);
    }

    private static int all(PaperRiver x, int a, int b) {
        return x.cell(a, b) + x.scrap(a, b) + x.mouth(a, b) + x.fleet(a, b) + x.rows(a, b) + x.gates(a, b) + x.round(a, b)
            + x.share(a, b) + x.count(a) + x.ahead(a, b, 1) + x.put(a, b, 60, 0) + x.put(12, a, b, 1) + x.seen(a, b, 0)
            + x.years(a, b, 2) + x.ahead(0, a, b) + x.put(1, 0, a, b) + x.seen(1, a, b) + x.years(1, a, b);
    }

    private static int acts(PaperRiver x, int a, int b) {
        return x.feed(a, b, a, b, a) + x.end(a) + x.rule() + x.river() + x.force(a) + x.drop(a, b) + x.tear(a)
            + x.net(a, b) + (x.dam(a, b > 0) ? 1 : 0) + x.image(a) + x.day() + x.seed(a) + x.back(b) + x.undo();
    }

    /** Whatever the numbers: an answer, and for what is asked no change. */
    private static void anyNumbers(Supplier<PaperRiver> make) {
        for (int a : EDGES) {
            for (int b : EDGES) {
                PaperRiver x = make.get();
                int before = x.count(4) + 100 * x.count(10) + 10000 * x.count(7);
                all(x, a, b);
                Due.is("nothing changes by " + a + ", " + b, x.count(4) + 100 * x.count(10) + 10000 * x.count(7), before);
                acts(x, a, b);
                all(x, a, b);
            }
        }
    }

    private static void anyNumbersAnyState() {
        anyNumbers(PaperRiver::new);
        anyNumbers(Rivers::rich);
        anyNumbers(Rivers::crowded);
    }

    public static void main(String[] args) {
        Due.sentence("No RIVER, no RULES, none IN FORCE", CallBoundsTest::newObject);
        Due.sentence("Twenty bytes come behind the TAPE, of each number the highest first", CallBoundsTest::highestFirst);
        Due.sentence("feed: NONE, and none comes, if it would have more than 400", CallBoundsTest::tapeOf400);
        Due.sentence("The TAPE has its first n bytes alone: n", CallBoundsTest::firstBytesAlone);
        Due.sentence("its first n bytes alone: nothing of what stood behind", CallBoundsTest::nothingOfWhatStoodBehind);
        Due.sentence("a TAPE of 400 bytes: the last of them", CallBoundsTest::theLastOf400);
        Due.sentence("end: NONE, and nothing happens, if it has not so many, or n is below 0", CallBoundsTest::endWithoutThese);
        Due.sentence("cell: what 0 to 5", CallBoundsTest::cells);
        Due.sentence("cell: -2 without these", CallBoundsTest::cellsWithoutThese);
        Due.sentence("scrap: what 0 to 5", CallBoundsTest::scraps);
        Due.sentence("scrap: -2 without these", CallBoundsTest::scrapsWithoutThese);
        Due.sentence("count: NONE for others", CallBoundsTest::counts);
        Due.sentence("IMAGES 0 to 3: the DAY", CallBoundsTest::images);
        Due.sentence("image: NONE without it; back: NONE, and nothing happens, if it was never made, or without it",
            CallBoundsTest::imagesWithoutThese);
        Due.sentence("gone back to, it is as it was (these stay)", CallBoundsTest::gone);
        Due.sentence("the RULE IN FORCE, what can be UNDONE, too", CallBoundsTest::imagesKeepTwentyActs);
        Due.sentence("All is as in an IMAGE, again and again", CallBoundsTest::imagesStay);
        Due.sentence("An object is used for at most 512 calls", CallBoundsTest::the512thCall);
        Due.sentence("without these: any numbers in any state", CallBoundsTest::anyNumbersAnyState);
        Due.end();
    }
}
