import java.math.BigInteger;

/** The bounds of what can be asked, AHEAD to YEARS: the last that is answered, the first that is not. */
public final class AskBoundsTest {
    private static final int LOWEST = Integer.MIN_VALUE;
    private static final int HIGHEST = Integer.MAX_VALUE;
    private static final int[] NO_TEXTS = {0, -1, 7, 10, 17, 71, 101, 111111111, 1111111111, LOWEST, HIGHEST};
    /** Who begins in cell 0 comes into the sea on the 60th day with an eddy of 8 in cell 6, on the 61st with one of 9. */
    private static final String SLOW = "river 7;eddy 1 9;eddy 2 9;eddy 3 9;eddy 4 9;eddy 5 9;eddy 6 ";
    private static final int[] SEEDS = {0, 1, 77, 12345, 1234567890, 2147483646, 2147483647};

    private AskBoundsTest() {
    }

    private static void aheadDays() {
        PaperRiver x = Rivers.with(Rivers.RING + ";scrap 0 a");
        for (int n = 0; n <= 60; n++) {
            Due.is("where it is then, " + n, x.ahead(0, n, 0), n % 16);
        }
        Due.is("61", x.ahead(0, 61, 0), -2);
        Due.is("-1", x.ahead(0, -1, 0), -2);
        Due.is("lowest", x.ahead(0, LOWEST, 0), -2);
        Due.is("highest", x.ahead(0, HIGHEST, 0), -2);
    }

    private static void aheadWhat() {
        PaperRiver x = Rivers.with("river 5;mill 1 c;net 2 5;scrap 0 ab;scrap 0 ac;scrap 0 caf;scrap 4 e");
        Due.is("now", x.ahead(0, 0, 0), 0);
        Due.is("now", x.ahead(0, 0, 1), 12);
        Due.is("now", x.ahead(0, 0, 2), 0);
        // of day 0: abc, acc, cafc; abc and cafc become one
        Due.is("its text then", x.ahead(0, 1, 1), 1233163);
        Due.is("of the one joined", x.ahead(2, 1, 2), 3);
        Due.is("the cell of the one joined", x.ahead(2, 1, 0), -1);
        Due.is("the other", x.ahead(1, 1, 0), 1);
        Due.is("caught", x.ahead(0, 2, 2), 2);
        Due.is("caught", x.ahead(0, 2, 0), -1);
        Due.is("too short for the net", x.ahead(1, 2, 2), 0);
        Due.is("in the sea", x.ahead(3, 1, 2), 1);
        Due.is("in the sea", x.ahead(3, 1, 0), -1);
        Due.is("its text stays", x.ahead(3, 60, 1), 5);
    }

    private static void aheadWithoutThese() {
        PaperRiver x = Rivers.crowded();
        Due.is("scrap 11", x.ahead(11, 0, 2), 0);
        for (int scrap : new int[] {-1, 12, LOWEST, HIGHEST}) {
            Due.is("scrap " + scrap, x.ahead(scrap, 1, 0), -2);
        }
        for (int what : new int[] {-1, 3, LOWEST, HIGHEST}) {
            Due.is("what " + what, x.ahead(0, 1, what), -2);
        }
        Due.is("without a river", new PaperRiver().ahead(0, 0, 0), -2);
        Due.is("without a scrap", Rivers.with("river 2").ahead(0, 0, 0), -2);
    }

    private static void mouthByDayThenNumbers() {
        PaperRiver x = Rivers.with("river 3;mill 2 f;scrap 1 a;scrap 2 b;scrap 2 c;scrap 0 d");
        int[] which = {1, 2, 0, 3};
        int[] days = {0, 0, 1, 2};
        int[] texts = {2, 3, 16, 46};
        for (int k = 0; k < 4; k++) {
            Due.is("which is the " + k + "-th", x.mouth(k, 0), which[k]);
            Due.is("the day of the " + k + "-th", x.mouth(k, 1), days[k]);
            Due.is("the text of the " + k + "-th", x.mouth(k, 2), texts[k]);
        }
        x.day();
        Due.is("from now on", x.mouth(0, 0), 0);
        Due.is("from now on, the day", x.mouth(0, 1), 1);
        Due.is("from now on", x.mouth(1, 0), 3);
        Due.is("no more", x.mouth(2, 0), -2);
    }

    private static void mouthSoManyDoNotCome() {
        PaperRiver x = Rivers.with("river 3;net 1 2;scrap 0 a;scrap 0 a;scrap 2 b;scrap 0 c");
        Due.is("the first", x.mouth(0, 0), 2);
        Due.is("the second", x.mouth(1, 0), 3);
        for (int what = 0; what <= 2; what++) {
            Due.is("one is caught, one joined", x.mouth(2, what), -2);
            Due.is("far more", x.mouth(HIGHEST, what), -2);
        }
        x = Rivers.with("river 2");
        for (int i = 0; i < 12; i++) {
            x.drop(1, 12);
        }
        Due.is("the 12th", x.mouth(11, 0), 11);
        Due.is("the 13th", x.mouth(12, 0), -2);
        Due.is("in a ring none", Rivers.with(Rivers.RING + ";scrap 0 a").mouth(0, 0), -2);
    }

    private static void mouthSixtyDays() {
        Due.is("on the 60th", Rivers.with(SLOW + "8;scrap 0 a").mouth(0, 0), 0);
        Due.is("its day", Rivers.with(SLOW + "8;scrap 0 a").mouth(0, 1), 59);
        Due.is("on the 61st", Rivers.with(SLOW + "9;scrap 0 a").mouth(0, 0), -2);
        PaperRiver x = Rivers.with(SLOW + "9;scrap 0 a");
        x.day();
        Due.is("a day on", x.mouth(0, 1), 60);
    }

    private static void mouthWithoutThese() {
        PaperRiver x = Rivers.with("river 2;scrap 0 a");
        Due.is("k -1", x.mouth(-1, 0), -1);
        Due.is("k lowest", x.mouth(LOWEST, 0), -1);
        for (int what : new int[] {-1, 3, LOWEST, HIGHEST}) {
            Due.is("what " + what, x.mouth(0, what), -1);
            Due.is("what " + what, x.mouth(12, what), -1);
        }
        Due.is("without a river", new PaperRiver().mouth(0, 0), -1);
        Due.is("none on the river", Rivers.with("river 2").mouth(0, 0), -2);
    }

    private static void fleetThreeAtMost() {
        PaperRiver x = Rivers.with("river 12;mouth 2;mouth 5;mouth 8;scrap 0 a;scrap 3 b;scrap 6 c;scrap 9 d");
        int[] sets = {0, 1, 3, 7, 14, 11};
        int[] cells = {0, 2, 2 + 16, 2 + 16 + 128, 16 + 128 + 1024, 2 + 16 + 1024};
        for (int i = 0; i < sets.length; i++) {
            Due.is("how many for " + sets[i], x.fleet(sets[i], 0), Integer.bitCount(cells[i]));
            Due.is("these for " + sets[i], x.fleet(sets[i], 1), cells[i]);
        }
        Due.is("four would be needed", x.fleet(15, 0), -2);
        Due.is("four would be needed", x.fleet(15, 1), -2);
    }

    private static void fleetCellsWithoutANet() {
        PaperRiver x = Rivers.with("river 6;scrap 0 a");
        Due.is("the least", x.fleet(1, 1), 2);
        x.net(1, 8);
        Due.is("where no net is", x.fleet(1, 1), 4);
        x.net(2, 8);
        x.net(3, 8);
        x.net(5, 8);
        Due.is("the one left", x.fleet(1, 1), 16);
        x.net(4, 8);
        Due.is("none is left", x.fleet(1, 1), -2);
        Due.is("a net too wide in cell 0", Rivers.with("river 3;flow 2 0;mouth 0;net 0 8;scrap 2 a").fleet(1, 0), -2);
        x.net(4, 1);
        Due.is("got anyway", x.fleet(1, 0), 0);
        Due.is("got anyway", x.fleet(1, 1), 0);
    }

    private static void fleetLeastAsBits() {
        PaperRiver x = Rivers.with("river 16;flow 0 15;flow 1 14;flow 2 13;mouth 13;mouth 14;scrap 2 a;scrap 1 b;scrap 0 c");
        Due.is("the last three cells", x.fleet(7, 1), 57344);
        Due.is("the last cell", x.fleet(4, 1), 32768);
        x = Rivers.with("river 8;flow 0 4;flow 1 4;flow 4 6;scrap 0 a;scrap 1 b");
        Due.is("of 4, 6, 7 the least", x.fleet(3, 1), 16);
        x = Rivers.with("river 8;flow 0 4;flow 1 5;flow 4 6;flow 5 3;flow 3 7;flow 6 2;mouth 2;scrap 0 a;scrap 1 b");
        Due.is("of 4, 6, 2 and of 5, 3, 7 the least", x.fleet(3, 1), 4 + 8);
    }

    private static void fleetSixtyDays() {
        String slow = "river 9;eddy 1 9;eddy 2 9;eddy 3 9;eddy 4 9;eddy 5 9;net 7 1;scrap 0 a;eddy 6 ";
        Due.is("got on the 60th day", Rivers.with(slow + "8").fleet(1, 0), 0);
        Due.is("not on the 61st", Rivers.with(slow + "9").fleet(1, 0), 1);
    }

    private static void fleetJoinedByOthers() {
        PaperRiver x = Rivers.with("river 5;mouth 1;flow 2 0;scrap 2 ab;scrap 2 b");
        Due.is("the later one is joined to the one in cell 0", x.fleet(2, 1), 1);
        Due.is("both", x.fleet(3, 1), 1);
        x = Rivers.with("river 6;flow 1 2;scrap 1 ab;scrap 1 ba;scrap 0 a");
        Due.is("joined to one that is joined, or caught", x.fleet(7, 1), 4);
        x = Rivers.with("river 3;scrap 1 a;scrap 1 a;mouth 2");
        Due.is("joined and caught in cell 2", x.fleet(2, 1), 4);
        x = Rivers.with("river 3;scrap 2 a;scrap 1 a");
        Due.is("one is lost to the sea", x.fleet(3, 1), -2);
    }

    private static void fleetWithoutThese() {
        PaperRiver x = Rivers.with("river 3;scrap 0 a;scrap 2 b;scrap 0 c");
        Due.is("none such", x.fleet(8, 0), -1);
        Due.is("one of them none such", x.fleet(9, 0), -1);
        Due.is("below 0", x.fleet(-1, 0), -1);
        Due.is("lowest", x.fleet(LOWEST, 0), -1);
        Due.is("highest", x.fleet(HIGHEST, 0), -1);
        Due.is("the last", x.fleet(4, 0), 1);
        x.day();
        Due.is("in the sea", x.fleet(2, 0), -1);
        Due.is("one of them in the sea", x.fleet(3, 0), -1);
        Due.is("on the river", x.fleet(5, 0), 1);
        for (int what : new int[] {-1, 2, LOWEST, HIGHEST}) {
            Due.is("what " + what, x.fleet(1, what), -1);
        }
        Due.is("without a river", new PaperRiver().fleet(0, 0), -1);
        Due.is("of a crowd the 12th", Rivers.crowded().fleet(1 << 11, 0) >= -2, true);
        Due.is("of a crowd a 13th", Rivers.crowded().fleet(1 << 12, 0), -1);
    }

    private static void putDays() {
        PaperRiver x = Rivers.with(Rivers.RING);
        for (int n = 1; n <= 60; n++) {
            Due.is("how many cells, " + n, x.put(1, 5, n, 0), 1);
            Due.is("the first, " + n, x.put(1, 5, n, 1), (5 - n + 64) % 16);
        }
        for (int n : new int[] {0, 61, -1, LOWEST, HIGHEST}) {
            Due.is("n " + n, x.put(1, 5, n, 0), -1);
            Due.is("n " + n, x.put(1, 5, n, 1), -1);
        }
    }

    private static void putHowManyTheFirst() {
        PaperRiver x = Rivers.with("river 16;dam 15");
        x.dam(15, false);
        Due.is("all cells", x.put(1, 15, 15, 0), 16);
        Due.is("the first", x.put(1, 15, 15, 1), 0);
        Due.is("all but one", x.put(1, 15, 14, 0), 15);
        Due.is("the first", x.put(1, 15, 14, 1), 1);
        Due.is("none", x.put(1, 0, 1, 0), 0);
        Due.is("none", x.put(1, 0, 1, 1), -2);
        Due.is("through a shut dam none", Rivers.with("river 3;mouth 1").put(1, 2, 60, 1), -2);
    }

    private static void putByItsNumber() {
        PaperRiver x = Rivers.with("river 4;mill 1 f;scrap 0 b");
        Due.is("its letters are not asked", x.put(1, 1, 1, 0), 1);
        Due.is("joined to another it is not there", x.put(61, 1, 1, 0), 0);
        Due.is("joined to another it is not there", x.put(61, 1, 1, 1), -2);
        x = Rivers.with("river 3;net 1 2");
        Due.is("caught it is not there", x.put(12, 1, 1, 0), 0);
        Due.is("too short for the net", x.put(1, 1, 1, 0), 1);
    }

    private static void putTwelveAreNoBar() {
        PaperRiver x = Rivers.with("river 4", "join later=12");
        for (int i = 0; i < 12; i++) {
            x.drop(3, 12);
        }
        Due.is("12", x.put(1, 2, 1, 0), 1);
        Due.is("12", x.put(1, 2, 1, 1), 1);
        Due.is("it is the 13th", x.put(1, 1, 1, 0), 1);
        Due.is("none is dropped", x.count(4), 12);
        x = Rivers.with("river 4;flow 3 1", "join later=12");
        for (int i = 0; i < 12; i++) {
            x.drop(0, 12);
        }
        Due.is("its number is 12", x.put(1, 1, 1, 0), 0);
    }

    private static void putWithoutThese() {
        PaperRiver x = Rivers.with(Rivers.RING);
        for (int text : NO_TEXTS) {
            Due.is("text " + text, x.put(text, 0, 1, 0), -1);
        }
        for (int text : new int[] {1, 6, 16, 11111111, 66666666}) {
            Due.is("text " + text, x.put(text, 0, 1, 0), 1);
        }
        for (int cell : new int[] {-1, 16, LOWEST, HIGHEST}) {
            Due.is("cell " + cell, x.put(1, cell, 1, 0), -1);
        }
        Due.is("cell 15", x.put(1, 15, 1, 1), 14);
        for (int what : new int[] {-1, 2, LOWEST, HIGHEST}) {
            Due.is("what " + what, x.put(1, 0, 1, what), -1);
        }
        Due.is("without a river", new PaperRiver().put(1, 0, 1, 0), -1);
    }

    private static void rowsHowMany() {
        PaperRiver x = Rivers.with("river 2;scrap 0 ab;scrap 1 ba;scrap 1 bb;scrap 1 aa;scrap 1 cd");
        int[] sets = {0, 1, 2, 3, 7, 15, 16, 17, 31, 5, 10};
        int[] due = {1, 1, 1, 2, 3, 4, 1, 0, 0, 1, 1};
        for (int i = 0; i < sets.length; i++) {
            Due.is("how many of " + sets[i], x.rows(sets[i], 0), due[i]);
        }
        x.day();
        Due.is("on the river or not", x.rows(15, 0), 4);
        Due.is("and the first one", x.rows(7, 2), 2);
    }

    private static void rowsTheFirst() {
        PaperRiver x = Rivers.with("river 2;scrap 0 ca;scrap 1 bc;scrap 1 ab;scrap 1 aa");
        int[] first = {0, 3, 2, 1};
        for (int place = 1; place <= 4; place++) {
            Due.is("place " + place, x.rows(15, place), first[place - 1]);
        }
        for (int place = 5; place <= 12; place++) {
            Due.is("so many it has not, " + place, x.rows(15, place), -2);
        }
        for (int place = 1; place <= 12; place++) {
            Due.is("the empty one, " + place, x.rows(0, place), -2);
        }
        x = Rivers.with("river 2;scrap 0 ab;scrap 0 cd");
        for (int place = 1; place <= 12; place++) {
            Due.is("there is none, " + place, x.rows(3, place), -2);
        }
    }

    private static void rowsEightAtMost() {
        PaperRiver x = Rivers.with("river 2" + ";scrap 0 aa".repeat(10));
        x.drop(0, 1);
        x.drop(0, 1);
        Due.is("8 at first", x.rows(255, 0), 40320);
        Due.is("8 at last", x.rows(255 << 4, 0), 40320);
        Due.is("the eighth", x.rows(255 << 4, 8), 11);
        Due.is("a ninth", x.rows(255 << 4, 9), -2);
        Due.is("the 12th", x.rows(255 << 4, 12), -2);
        Due.is("a set of 9", x.rows(511, 0), -1);
        Due.is("a set of 9", x.rows(511, 1), -1);
        Due.is("a set of 12", x.rows(4095, 0), -1);
    }

    private static void rowsWithoutThese() {
        PaperRiver x = Rivers.with("river 2;scrap 0 aa;scrap 0 aa");
        for (int what : new int[] {-1, 13, LOWEST, HIGHEST}) {
            Due.is("what " + what, x.rows(3, what), -1);
        }
        for (int set : new int[] {4, 5, -1, LOWEST, HIGHEST, 1 << 12}) {
            Due.is("set " + set, x.rows(set, 0), -1);
        }
        Due.is("12 scraps, a 13th", Rivers.crowded().rows(1 << 12, 0), -1);
        Due.is("12 scraps, the 12th", Rivers.crowded().rows(1 << 11, 1), 11);
        Due.is("without a river", new PaperRiver().rows(0, 0), -1);
        Due.is("none told", Rivers.with("river 2").rows(0, 0), 1);
    }

    private static void seenDaysAgo() {
        PaperRiver x = Rivers.with(Rivers.RING);
        Due.is("0 to 20, a cell each", x.seen(1, 7, 0), 21);
        x = Rivers.with("river 2;dam 1");
        x.dam(1, false);
        Due.is("0 to 20 there, 1 to 20 above", x.seen(1, 1, 0), 41);
        x = Rivers.with("river 16;eddy 14 9");
        // into 15: from 14 a day ago, from 13 11 and from 12 12 days ago, .. , from 4 20 days ago, from 15 itself
        Due.is("of the way the cells that 20 days are enough for", x.seen(1, 15, 0), 12);
    }

    private static void seenTheFirst() {
        for (int cell = 0; cell < 16; cell++) {
            Due.is("the cell", Rivers.with(Rivers.RING).seen(1, cell, 1), cell);
            Due.is("days ago", Rivers.with(Rivers.RING).seen(1, cell, 2), 0);
        }
        PaperRiver x = Rivers.with("river 4;mill 2 c;flow 0 2");
        Due.is("how many", x.seen(13, 2, 0), 3);
        Due.is("the cell", x.seen(13, 2, 1), 2);
        Due.is("days ago", x.seen(13, 2, 2), 0);
        Due.is("not printed there", x.seen(12, 2, 0), 1);
    }

    private static void seenOneLetterOrMore() {
        PaperRiver x = Rivers.with("river 5;mill 1 c;mill 2 c");
        Due.is("a c alone was dropped there", x.seen(3, 1, 0), 1);
        Due.is("cc there or one above", x.seen(33, 1, 0), 2);
        Due.is("cc in 2: there, or as c in 1", x.seen(33, 2, 0), 2);
        Due.is("ccc in 2: there, as cc in 1, as c in 0", x.seen(333, 2, 0), 3);
        Due.is("eight letters come by", x.seen(11111111, 3, 0), 4);
        Due.is("seven get one", x.seen(1111111, 3, 0), 2);
        Due.is("six and two of the mills", x.seen(11111133, 3, 0), 4);
    }

    private static void seenLettersPrinted() {
        PaperRiver x = Rivers.with("river 2;flow 1 0;mill 0 a;mill 1 b");
        Due.is("7 letters, 6 of the mills at most", x.seen(1212121, 0, 0), 7);
        Due.is("5 of the mills at most", x.seen(1112121, 0, 0), 6);
        Due.is("none of the mills", x.seen(1212122, 0, 0), 1);
        Due.is("8 letters, which no mill changes", x.seen(66666666, 0, 0), 21);
        Due.is("one letter", x.seen(1, 0, 0), 1);
        x = Rivers.with("river 3;flow 2 0;eddy 0 4;mill 0 f");
        // in 0, which it stays in 5 days: dropped there, 1 to 5 days ago in 2, 2 to 6 days ago in 1, 3 to 7 in 0 again
        Due.is("an eddy and a mill in cell 0", x.seen(16, 0, 0), 1 + 5 + 5 + 5);
        Due.is("not by the mill", x.seen(11, 0, 0), 1);
        Due.is("by it twice", x.seen(166, 0, 0), 1 + 5 + 5 + 5 + 3 * 5);
    }

    private static void seenAsNow() {
        PaperRiver x = Rivers.with("river 4;dam 1;eddy 2 2;scrap 1 ab;scrap 0 a");
        // in 2 it is 3 days long: dropped there (0), 1 day above (1 to 3), 2 days above (2 to 4)
        Due.is("an open dam, an eddy", x.seen(1, 2, 0), 7);
        x.dam(1, false);
        Due.is("a shut dam", x.seen(1, 2, 0), 1);
        Due.is("held by it", x.seen(1, 1, 0), 41);
    }

    private static void seenWithoutThese() {
        PaperRiver x = Rivers.with(Rivers.RING);
        for (int text : NO_TEXTS) {
            Due.is("text " + text, x.seen(text, 0, 0), -1);
        }
        for (int cell : new int[] {-1, 16, LOWEST, HIGHEST}) {
            Due.is("cell " + cell, x.seen(1, cell, 0), -1);
        }
        for (int what : new int[] {-1, 3, LOWEST, HIGHEST}) {
            Due.is("what " + what, x.seen(1, 0, what), -1);
        }
        Due.is("cell 15", x.seen(66666666, 15, 1), 15);
        Due.is("without a river", new PaperRiver().seen(1, 0, 0), -1);
    }

    private static void gatesDays() {
        PaperRiver x = Rivers.with(SLOW + "8;dam 0;scrap 0 a");
        Due.is("60: open", x.gates(60, 0), 1);
        Due.is("60: one", x.gates(60, 1), 1);
        Due.is("59: the least", x.gates(59, 0), 0);
        Due.is("59: none", x.gates(59, 1), 0);
        Due.is("60, a day too slow", Rivers.with(SLOW + "9;dam 0;scrap 0 a").gates(60, 1), 0);
        Due.is("1", Rivers.with("river 2;scrap 1 a;scrap 0 b").gates(1, 1), 1);
        Due.is("2", Rivers.with("river 2;scrap 1 a;scrap 0 b").gates(2, 1), 2);
        for (int n : new int[] {0, 61, -1, LOWEST, HIGHEST}) {
            Due.is("n " + n, x.gates(n, 0), -1);
            Due.is("n " + n, x.gates(n, 1), -1);
        }
    }

    private static void gatesLeastAsBits() {
        PaperRiver x = Rivers.with("river 8;mouth 0;mouth 2;mouth 4;mouth 6;dam 0;dam 2;dam 4;dam 6;scrap 2 a;scrap 6 b");
        Due.is("those that are needed alone", x.gates(1, 0), 2 + 8);
        Due.is("how many", x.gates(1, 1), 2);
        x.drop(0, 3);
        x.drop(4, 4);
        Due.is("all four", x.gates(1, 0), 15);
        Due.is("how many", x.gates(1, 1), 4);
        x = Rivers.with("river 2;scrap 0 a");
        Due.is("no dams", x.gates(60, 0), 0);
        Due.is("no dams", x.gates(60, 1), 1);
        x = Rivers.with("river 3;dam 0;scrap 0 ab;scrap 2 a", "join 1=1");
        Due.is("none is in the sea by it more", x.gates(1, 0), 0);
    }

    private static void gatesInTheSea() {
        PaperRiver x = Rivers.with("river 3;dam 0;scrap 2 a;scrap 0 b");
        x.day();
        Due.is("one is there already, one comes", x.gates(2, 1), 2);
        x.dam(0, false);
        Due.is("as they are now is of no matter", x.gates(2, 1), 2);
        Due.is("it is behind the dam", x.gates(2, 0), 0);
    }

    private static void gatesWithoutThese() {
        PaperRiver x = Rivers.with("river 2;dam 0");
        for (int what : new int[] {-1, 2, LOWEST, HIGHEST}) {
            Due.is("what " + what, x.gates(1, what), -1);
        }
        Due.is("without a river", new PaperRiver().gates(1, 0), -1);
        Due.is("without a scrap", x.gates(1, 1), 0);
    }

    private static void roundCells() {
        PaperRiver x = Rivers.with("river 16;flow 15 14");
        for (int cell = 0; cell < 16; cell++) {
            Due.is("a ring of two", x.round(cell, 0), 2);
            Due.is("after how many", x.round(cell, 1), Math.max(0, 14 - cell));
        }
        x = Rivers.with(Rivers.RING);
        for (int cell = 0; cell < 16; cell++) {
            Due.is("a ring of 16", x.round(cell, 0), 16);
            Due.is("in it", x.round(cell, 1), 0);
        }
        x = Rivers.with("river 16");
        for (int cell = 0; cell < 16; cell++) {
            Due.is("to the sea", x.round(cell, 0), 0);
            Due.is("after how many", x.round(cell, 1), 16 - cell);
        }
        Due.is("a ring of all but one", Rivers.with("river 4;flow 3 1").round(0, 0) * 10
            + Rivers.with("river 4;flow 3 1").round(0, 1), 31);
        Due.is("a shut dam is of no matter", Rivers.with("river 2;dam 0").round(0, 1), 2);
    }

    private static void roundWithoutThese() {
        PaperRiver x = Rivers.with("river 3");
        for (int cell : new int[] {-1, 3, LOWEST, HIGHEST}) {
            Due.is("cell " + cell, x.round(cell, 0), -1);
        }
        for (int what : new int[] {-1, 2, LOWEST, HIGHEST}) {
            Due.is("what " + what, x.round(0, what), -1);
        }
        Due.is("without a river", new PaperRiver().round(0, 0), -1);
    }

    private static void fraction(PaperRiver x, int mill, int above, int below) {
        Due.is("mill " + mill + " above the line", x.share(mill, 0), above);
        Due.is("mill " + mill + " below the line", x.share(mill, 1), below);
    }

    private static void shareInLowestTerms() {
        PaperRiver x = Rivers.with("river 9;mill 1 a;mill 3 b;mill 5 c;scrap 0 a;scrap 0 bb;scrap 2 c;scrap 2 dd;scrap 2 f;"
            + "scrap 2 ee");
        fraction(x, 0, 0, 1);
        fraction(x, 2, 0, 1);
        x.day();
        fraction(x, 0, 1, 3);
        fraction(x, 1, 2, 3);
        fraction(x, 2, 0, 1);
        x.undo();
        fraction(x, 1, 0, 1);
        x = Rivers.with("river 3;mill 1 a;scrap 0 b;scrap 0 c");
        x.day();
        fraction(x, 0, 1, 1);
        x = Rivers.with("river 4;mill 1 a;mill 2 b;scrap 0 b");
        x.day();
        fraction(x, 0, 1, 1);
        fraction(x, 1, 0, 1);
        x = Rivers.with("river 5;mill 1 a;mill 3 b;scrap 0 a;scrap 0 b;scrap 0 c;scrap 2 d;scrap 2 e;scrap 2 f;scrap 2 b;"
            + "scrap 2 a;scrap 2 c", "join 1=2");
        x.day();
        fraction(x, 0, 1, 3);
        fraction(x, 1, 2, 3);
    }

    private static void shareWithoutThese() {
        PaperRiver x = Rivers.with("river 6;mill 0 a;mill 1 a;mill 2 a;mill 3 a;mill 4 a;mill 5 a");
        Due.is("mill 5", x.share(5, 1), 1);
        for (int mill : new int[] {-1, 6, LOWEST, HIGHEST}) {
            Due.is("mill " + mill, x.share(mill, 0), -1);
        }
        for (int part : new int[] {-1, 2, LOWEST, HIGHEST}) {
            Due.is("part " + part, x.share(0, part), -1);
        }
        Due.is("without a mill", Rivers.with("river 2").share(0, 0), -1);
        Due.is("without a river", new PaperRiver().share(0, 0), -1);
    }

    private static void seeds() {
        PaperRiver x = new PaperRiver();
        int was = 0;
        for (int seed : new int[] {1, 2147483647, 2147483646, 0, 5}) {
            Due.is("what it was", x.seed(seed), was);
            Due.is("x", x.count(11), seed);
            was = seed;
        }
        Twins.refused("seed(-1)", Rivers::rich, y -> y.seed(-1), -1);
        Twins.refused("seed(lowest)", Rivers::rich, y -> y.seed(LOWEST), -1);
    }

    /** The draws from x on, reckoned without a bound on the numbers. */
    private static int[] draws(int x, int many) {
        int[] draws = new int[many];
        BigInteger at = BigInteger.valueOf(x);
        for (int i = 0; i < many; i++) {
            at = at.multiply(BigInteger.valueOf(1103515245)).add(BigInteger.valueOf(12345)).mod(BigInteger.ONE.shiftLeft(31));
            draws[i] = at.divide(BigInteger.valueOf(65536)).intValue();
        }
        return draws;
    }

    private static void drawsOfCells() {
        for (int seed : SEEDS) {
            int[] draws = draws(seed, 20);
            for (int cells = 2; cells <= 16; cells++) {
                for (int cell = 0; cell < cells; cell++) {
                    PaperRiver x = Rivers.with("river " + cells + ";flow " + (cells - 1) + " 0;mouth " + cell);
                    x.seed(seed);
                    int due = 0;
                    for (int time = 0; time < 10; time++) {
                        due += draws[2 * time] % cells == cell ? 1 : 0;
                    }
                    Due.is("x " + seed + ", dropped in cell " + cell + " of " + cells, x.years(10, 1, 0), due);
                }
            }
        }
    }

    private static void drawsOfLetters() {
        for (int seed : SEEDS) {
            int[] draws = draws(seed, 20);
            for (int letter = 0; letter < 6; letter++) {
                PaperRiver x = Rivers.with("river 2;dam 1;scrap 1 a", "join first=" + (letter + 1));
                x.dam(1, false);
                x.seed(seed);
                int due = 0;
                for (int time = 0; time < 10; time++) {
                    due += draws[2 * time + 1] % 6 == letter ? 1 : 0;
                    Due.is("x " + seed + ", letter " + letter + " in " + (time + 1), x.years(time + 1, 1, 2), due);
                }
            }
        }
    }

    private static void yearsTimesAndDays() {
        PaperRiver x = Rivers.with("river 2;mouth 0");
        for (int m = 1; m <= 10; m++) {
            for (int n = 1; n <= 60; n += n < 14 ? 1 : 23) {
                Due.is(m + " times " + n, x.years(m, n, 0), m * Math.min(n, 12));
            }
        }
        x = Rivers.with(SLOW + "8");
        for (int i = 0; i < 12; i++) {
            x.drop(0, 12);
        }
        Due.is("59 days", x.years(1, 59, 0), 0);
        Due.is("60 days", x.years(1, 60, 0), 12);
        Due.is("10 times 60 days", x.years(10, 60, 0), 120);
        for (int wrong : new int[] {0, 11, -1, LOWEST, HIGHEST}) {
            Due.is("m " + wrong, x.years(wrong, 1, 0), -1);
        }
        for (int wrong : new int[] {0, 61, -1, LOWEST, HIGHEST}) {
            Due.is("n " + wrong, x.years(1, wrong, 0), -1);
        }
    }

    private static void yearsTwelve() {
        for (int many = 0; many <= 12; many++) {
            PaperRiver x = Rivers.with("river 2;mouth 0");
            for (int i = 0; i < many; i++) {
                x.drop(0, 12);
            }
            x.day();
            Due.is(many + " left: into the sea", x.years(1, 60, 0), 12 - many);
            Due.is(many + " left, ten times", x.years(10, 60, 0), 10 * (12 - many));
        }
    }

    private static void yearsBothAreDrawnAnyway() {
        for (int seed : SEEDS) {
            PaperRiver x = Rivers.with("river 4;flow 3 0;mouth 2", "join 1=2");
            for (int i = 0; i < 11; i++) {
                x.drop(2, 1);
            }
            x.day();
            x.seed(seed);
            // of each time the first letter alone is dropped; it is in the sea behind 1 to 3 days, if not in 3
            int[] draws = draws(seed, 60);
            int due = 0;
            for (int time = 0; time < 10; time++) {
                due += draws[6 * time] % 4 != 3 ? 1 : 0;
            }
            Due.is("x " + seed + ", ten times three days", x.years(10, 3, 0), due);
        }
    }

    private static void yearsWhat() {
        PaperRiver x = Rivers.with("river 4;net 1 2;scrap 0 aa;scrap 3 b;scrap 0 a;scrap 0 ff", "join one=0 and later=2");
        // who is drawn is alone and of one letter: it is neither caught nor joined
        Due.is("joined", x.years(1, 1, 2), 1);
        Due.is("caught", x.years(1, 1, 1), 2);
        Due.is("joined, all together", x.years(10, 1, 2), 10);
        Due.is("caught, all together", x.years(10, 1, 1), 20);
        int drawn = 0;
        int[] draws = draws(0, 20);
        for (int time = 0; time < 10; time++) {
            drawn += draws[2 * time] % 4 == 3 ? 1 : 0;
        }
        Due.is("into the sea", x.years(10, 1, 0), 10 + drawn);
        x.day();
        Due.is("who left before does not count", x.years(1, 1, 2), 0);
        for (int what : new int[] {-1, 3, LOWEST, HIGHEST}) {
            Due.is("what " + what, x.years(1, 1, what), -1);
        }
        Due.is("without a river", new PaperRiver().years(1, 1, 0), -1);
    }

    private static void nothingChanges() {
        Twins.unchanged("ahead", Rivers::rich, x -> x.ahead(0, 60, 1));
        Twins.unchanged("mouth", Rivers::rich, x -> x.mouth(2, 0));
        Twins.unchanged("fleet", Rivers::rich, x -> x.fleet(1, 1));
        Twins.unchanged("put", Rivers::rich, x -> x.put(12, 3, 5, 0));
        Twins.unchanged("rows", Rivers::rich, x -> x.rows(31, 1));
        Twins.unchanged("seen", Rivers::rich, x -> x.seen(123, 3, 0));
        Twins.unchanged("gates", Rivers::rich, x -> x.gates(60, 0));
        Twins.unchanged("round", Rivers::rich, x -> x.round(0, 1));
        Twins.unchanged("share", Rivers::rich, x -> x.share(0, 1));
        Twins.unchanged("years", Rivers::rich, x -> x.years(10, 60, 0));
        Twins.unchanged("put of 12", Rivers::crowded, x -> x.put(12, 3, 5, 0));
        Twins.unchanged("years of 12", Rivers::crowded, x -> x.years(10, 60, 2));
    }

    private static void asksAhead() {
        Due.sentence("AHEAD n DAYS (0 to 60)", AskBoundsTest::aheadDays);
        Due.sentence("ahead: 0: cell (NONE), 1: text, 2: as scrap(3)", AskBoundsTest::aheadWhat);
        Due.sentence("ahead: -2 without these", AskBoundsTest::aheadWithoutThese);
        Due.sentence("the k-th SCRAP that comes into the SEA from now on (of one DAY by numbers)",
            AskBoundsTest::mouthByDayThenNumbers);
        Due.sentence("mouth: -2: so many do not come", AskBoundsTest::mouthSoManyDoNotCome);
        Due.sentence("MOUTH: 60 are looked at", AskBoundsTest::mouthSixtyDays);
        Due.sentence("mouth: NONE without these (k 0 and on), or a RIVER", AskBoundsTest::mouthWithoutThese);
        Due.sentence("the fewest cells (3 at most); -2: there are none", AskBoundsTest::fleetThreeAtMost);
        Due.sentence("cells without a NET", AskBoundsTest::fleetCellsWithoutANet);
        Due.sentence("FLEET: of several the least as bits", AskBoundsTest::fleetLeastAsBits);
        Due.sentence("all of them are CAUGHT in these DAYS (60)", AskBoundsTest::fleetSixtyDays);
        Due.sentence("or joined (by others) to one that is", AskBoundsTest::fleetJoinedByOthers);
        Due.sentence("fleet: NONE without these (a set of SCRAPS on the river)", AskBoundsTest::fleetWithoutThese);
        Due.sentence("PUT n DAYS (1 to 60)", AskBoundsTest::putDays);
        Due.sentence("PUT: how many; the first (-2: there is none)", AskBoundsTest::putHowManyTheFirst);
        Due.sentence("its number is asked, not its LETTERS", AskBoundsTest::putByItsNumber);
        Due.sentence("12 SCRAPS are no bar here", AskBoundsTest::putTwelveAreNoBar);
        Due.sentence("put: NONE without these, or a RIVER", AskBoundsTest::putWithoutThese);
        Due.sentence("ROWS (on the river or not): how many", AskBoundsTest::rowsHowMany);
        Due.sentence("rows: 1 to 12 of the first (-2: there is none, or so many it has not)", AskBoundsTest::rowsTheFirst);
        Due.sentence("rows: a set of 8 SCRAPS at most", AskBoundsTest::rowsEightAtMost);
        Due.sentence("rows: NONE without these", AskBoundsTest::rowsWithoutThese);
    }

    private static void asksBackAndDrawn() {
        Due.sentence("SEEN: DAYS ago (0 to 20)", AskBoundsTest::seenDaysAgo);
        Due.sentence("SEEN: how many; the first (by DAYS, then cells)", AskBoundsTest::seenTheFirst);
        Due.sentence("with 1 LETTER or more", AskBoundsTest::seenOneLetterOrMore);
        Due.sentence("SEEN: with the LETTERS of the MILLS on its way", AskBoundsTest::seenLettersPrinted);
        Due.sentence("alone on the river (MILLS, EDDIES, DAMS as now, all of the way)", AskBoundsTest::seenAsNow);
        Due.sentence("seen: NONE without these, or a RIVER", AskBoundsTest::seenWithoutThese);
        Due.sentence("GATES for n DAYS (1 to 60)", AskBoundsTest::gatesDays);
        Due.sentence("GATES: of several the least as bits", AskBoundsTest::gatesLeastAsBits);
        Due.sentence("most SCRAPS are in the SEA n DAYS on", AskBoundsTest::gatesInTheSea);
        Due.sentence("gates: NONE without these, or a RIVER", AskBoundsTest::gatesWithoutThese);
        Due.sentence("how many cells it goes round in, in the end (0: it comes to the SEA)", AskBoundsTest::roundCells);
        Due.sentence("round: NONE without these", AskBoundsTest::roundWithoutThese);
        Due.sentence("a fraction in lowest terms (none printed: 0 of 1)", AskBoundsTest::shareInLowestTerms);
        Due.sentence("share: NONE without these", AskBoundsTest::shareWithoutThese);
        Due.sentence("x (0 to 2147483647; 0 at first); seed: NONE, and nothing happens, below 0", AskBoundsTest::seeds);
        Due.sentence("DRAWS: a DRAW mod CELLS", AskBoundsTest::drawsOfCells);
        Due.sentence("DRAWS: a DRAW mod 6 (0: a)", AskBoundsTest::drawsOfLetters);
        Due.sentence("YEARS m times (1 to 10) n DAYS (1 to 60)", AskBoundsTest::yearsTimesAndDays);
        Due.sentence("if there are fewer than 12 SCRAPS", AskBoundsTest::yearsTwelve);
        Due.sentence("both are drawn anyway", AskBoundsTest::yearsBothAreDrawnAnyway);
        Due.sentence("YEARS: into the SEA, CAUGHT, JOINED, all together; NONE without these, or a RIVER",
            AskBoundsTest::yearsWhat);
        Due.sentence("By what is asked nothing changes (x as it was)", AskBoundsTest::nothingChanges);
    }

    public static void main(String[] args) {
        asksAhead();
        asksBackAndDrawn();
        Due.end();
    }
}
