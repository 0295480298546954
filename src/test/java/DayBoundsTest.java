import java.util.ArrayList;
import java.util.List;
import java.util.Random;
import java.util.function.ToIntFunction;

/** The bounds of a DAY and of the other ACTS, each call of theirs that is refused, and what can be UNDONE. */
public final class DayBoundsTest {
    private static final int LOWEST = Integer.MIN_VALUE;
    private static final int HIGHEST = Integer.MAX_VALUE;

    private DayBoundsTest() {
    }

    private static void refusedOfRich(String call, ToIntFunction<PaperRiver> made, int answer) {
        Twins.refused(call, Rivers::rich, made, answer);
    }

    private static void shutDams() {
        PaperRiver x = Rivers.with("river 3;dam 0;dam 1;eddy 1 2;mill 0 f;scrap 0 a;scrap 0 bb");
        x.dam(0, false);
        Rivers.days(x, 3);
        Due.is("they stay", x.cell(0, 5), 3);
        Due.is("and get no letter there", x.scrap(0, 1), 1);
        x.dam(0, true);
        x.day();
        Due.is("opened, they go", x.cell(1, 5), 3);
        x.dam(1, false);
        Rivers.days(x, 4);
        Due.is("behind a shut dam no day of waiting is over", x.scrap(0, 2), 2);
        x.dam(1, true);
        Rivers.days(x, 2);
        Due.is("they wait then", x.cell(1, 5), 3);
        x.day();
        Due.is("and go", x.cell(2, 5), 3);
    }

    private static void daysToWait() {
        for (int eddy = 1; eddy <= 9; eddy++) {
            PaperRiver x = Rivers.with("river 3;scrap 0 a;eddy 1 " + eddy);
            x.day();
            for (int left = eddy; left >= 0; left--) {
                Due.is("with " + left + " days to wait", x.scrap(0, 2), left);
                Due.is("it is there", x.scrap(0, 0), 1);
                x.day();
            }
            Due.is("then it goes", x.scrap(0, 0), 2);
            Due.is("and has none", x.scrap(0, 2), 0);
        }
    }

    private static void whoComesIn() {
        PaperRiver x = Rivers.with("river 3;flow 2 0;eddy 0 5;mill 0 b;scrap 0 a");
        Due.is("told there it has no days to wait", x.scrap(0, 2), 0);
        Due.is("dropped there neither", x.scrap(x.drop(0, 3), 2), 0);
        x.day();
        Due.is("both go", x.cell(1, 5), 3);
        Due.is("without the mill's letter", x.scrap(0, 1), 1);
        Rivers.days(x, 2);
        Due.is("come in, it has", x.scrap(0, 2), 5);
        Due.is("and the mill's letter", x.scrap(0, 1), 12);
        x.day();
        Due.is("one letter for all its days there", x.scrap(0, 1), 12);
    }

    private static void eightLettersOfAMill() {
        PaperRiver x = Rivers.with("river 5;mill 1 b;mill 2 c;scrap 0 ffffff;scrap 0 eeeeeee;scrap 0 dddddddd");
        x.day();
        Due.is("six and one", x.scrap(0, 1), 6666662);
        Due.is("seven and one", x.scrap(1, 1), 55555552);
        Due.is("eight", x.scrap(2, 1), 44444444);
        Due.is("letters printed", x.count(9), 2);
        x = Rivers.with("river 5;mill 1 b;mill 2 c;scrap 0 fffffe");
        Rivers.days(x, 2);
        Due.is("six and two", x.scrap(0, 1), 66666523);
        x = Rivers.with("river 2;mill 0 a;mill 1 b;flow 1 0;scrap 0 c");
        Rivers.days(x, 20);
        Due.is("no ninth", x.scrap(0, 1), 32121212);
        Due.is("letters printed", x.count(9), 7);
    }

    private static void intoTheSea() {
        PaperRiver x = Rivers.with("river 3;mouth 0;scrap 0 a;scrap 2 bb;scrap 1 c");
        Due.is("two left", x.day(), 2);
        Due.is("in the sea", x.scrap(0, 3), 1);
        Due.is("its cell", x.scrap(0, 0), -1);
        Due.is("its text", x.scrap(1, 1), 22);
        Due.is("no net", x.scrap(1, 4), -1);
        Due.is("on the river", x.count(8), 4);
    }

    private static void theFirstSuchTwo() {
        PaperRiver x = Rivers.with("river 3;scrap 0 aa;scrap 0 cb;scrap 0 ac;scrap 0 ba");
        Due.is("three", x.day(), 3);
        Due.is("0 2, 0 1, 0 3", x.scrap(0, 1), 11133221);
        x = Rivers.with("river 3;scrap 0 ab;scrap 0 cd;scrap 0 de;scrap 0 ea");
        Due.is("the one, if none is later than 0", x.day(), 2);
        Due.is("1 2, 1 3", x.scrap(1, 1), 344551);
        Due.is("not 3 0: 0 is the one, as it has the lower number", x.scrap(0, 1), 12);
        x = Rivers.with("river 3;scrap 0 ab;scrap 1 b;scrap 0 b;scrap 2 b");
        Due.is("in each cell for itself", x.day(), 2);
        Due.is("0 2", x.scrap(2, 4), 0);
        Due.is("1 is in the next cell", x.scrap(1, 0), 2);
    }

    /** The text of so many letters a. */
    private static int ones(int many) {
        return Integer.parseInt("1".repeat(many));
    }

    private static void eightLettersOfAJoin() {
        for (int many = 1; many <= 8; many++) {
            for (int others = 1; others <= 8; others++) {
                String text = "river 3;scrap 0 " + "a".repeat(many) + ";scrap 0 " + "a".repeat(others);
                int due = many + others <= 8 ? 1 : 0;
                PaperRiver x = Rivers.with(text);
                Due.is(many + " and " + others, x.day(), due);
                Due.is("the text of " + many + " and " + others, x.scrap(0, 1), ones(many + due * others));
                Due.is(many + " and " + others + " by a rule", Rivers.with(text, "join 1=1").day(), due);
            }
        }
        PaperRiver x = Rivers.with("river 3;scrap 0 aaaaa;scrap 0 aaaa;scrap 0 aaa;scrap 0 a");
        Due.is("who is too long is left out", x.day(), 2);
        Due.is("0 2", x.scrap(2, 4), 0);
        Due.is("1 3", x.scrap(3, 4), 1);
    }

    private static void joined() {
        PaperRiver x = Rivers.with("river 4;eddy 1 4;scrap 0 ab;scrap 0 bc");
        x.day();
        Due.is("the letters of the later one behind", x.scrap(0, 1), 1223);
        Due.is("the one is there", x.scrap(0, 0), 1);
        Due.is("and waits as before", x.scrap(0, 2), 4);
        int[] want = {-1, 23, 0, 3, 0, 0};
        for (int what = 0; what < want.length; what++) {
            Due.is("scrap(1, " + what + ")", x.scrap(1, what), want[what]);
        }
    }

    private static void meshOfANet() {
        for (int mesh = 1; mesh <= 8; mesh++) {
            for (int many = 1; many <= 8; many++) {
                PaperRiver x = Rivers.with("river 3;net 1 " + mesh + ";scrap 0 " + "a".repeat(many));
                Due.is(many + " letters, mesh " + mesh, x.day(), many >= mesh ? 1 : 0);
                Due.is("caught", x.scrap(0, 3), many >= mesh ? 2 : 0);
                Due.is("the cell of the net", x.scrap(0, 4), many >= mesh ? 1 : -1);
            }
        }
        PaperRiver x = Rivers.with("river 3;net 1 3;mill 1 a;scrap 0 ab;scrap 0 c");
        Due.is("letters just printed count", x.day(), 1);
        x = Rivers.with("river 3;net 1 2;scrap 0 a;scrap 0 a;scrap 0 b");
        Due.is("joined ahead of the net", x.day(), 2);
        Due.is("the one is caught", x.scrap(0, 3), 2);
        Due.is("the later one is joined", x.scrap(1, 3), 3);
        x = Rivers.with("river 3;net 1 1;dam 1;scrap 1 a");
        x.dam(1, false);
        Due.is("who stays is caught", x.day(), 1);
        x = Rivers.with("river 3;net 0 1;mouth 0;scrap 0 a");
        x.day();
        Due.is("who goes is not", x.scrap(0, 3), 1);
    }

    private static void whoLeft() {
        PaperRiver x = Rivers.with("river 4;net 1 2;scrap 0 a;scrap 0 a;scrap 3 b;scrap 1 c");
        Due.is("in the sea, caught, joined", x.day(), 3);
        Due.is("none", x.day(), 0);
        Due.is("the last", x.day(), 1);
        Due.is("nobody is there", x.day(), 0);
        int[] left = {0, 0, 0, 2};
        for (int scrap = 0; scrap < 4; scrap++) {
            Due.is("the day on which " + scrap + " left", x.scrap(scrap, 5), left[scrap]);
        }
    }

    private static PaperRiver lastDay() {
        PaperRiver x = Rivers.with(Rivers.RING + ";scrap 0 a");
        Rivers.days(x, 999);
        return x;
    }

    private static void day999() {
        PaperRiver x = Rivers.with(Rivers.RING + ";scrap 0 a");
        Rivers.days(x, 998);
        Due.is("day 998", x.count(7), 998);
        Due.is("one more", x.day(), 0);
        Due.is("day 999", x.count(7), 999);
        Twins.refused("day() at day 999", DayBoundsTest::lastDay, PaperRiver::day, -1);
        Twins.refused("day() without a river", PaperRiver::new, PaperRiver::day, -1);
    }

    private static void dropped() {
        PaperRiver x = Rivers.with("river 16;scrap 0 a");
        int[] texts = {1, 6, 16, 61, 123456, 11111111, 66666666, 6, 5, 4, 3};
        for (int i = 0; i < texts.length; i++) {
            Due.is("its number", x.drop(15 - i, texts[i]), i + 1);
            Due.is("its text", x.scrap(i + 1, 1), texts[i]);
            Due.is("its cell", x.scrap(i + 1, 0), 15 - i);
            Due.is("on the river", x.scrap(i + 1, 3), 0);
            Due.is("of no net", x.scrap(i + 1, 4), -1);
            Due.is("it did not leave", x.scrap(i + 1, 5), -1);
        }
    }

    private static void dropWithoutThese() {
        refusedOfRich("drop(-1, 1)", x -> x.drop(-1, 1), -1);
        refusedOfRich("drop(6, 1)", x -> x.drop(6, 1), -1);
        refusedOfRich("drop(lowest, 1)", x -> x.drop(LOWEST, 1), -1);
        refusedOfRich("drop(highest, 1)", x -> x.drop(HIGHEST, 1), -1);
        int[] texts = {0, -1, -12, 7, 8, 9, 10, 17, 71, 101, 120, 70000000, 10000000, 111111111, 1111111111, LOWEST, HIGHEST};
        for (int text : texts) {
            refusedOfRich("drop(0, " + text + ")", x -> x.drop(0, text), -1);
        }
        Twins.refused("drop without a river", PaperRiver::new, x -> x.drop(0, 1), -1);
    }

    private static void twelve() {
        PaperRiver x = Rivers.with("river 2" + ";scrap 0 ab".repeat(10));
        Due.is("told ten, the 11th is dropped", x.drop(0, 1), 10);
        Due.is("the 12th is torn off", x.tear(0), 11);
        Due.is("no 13th is dropped", x.drop(0, 1), -1);
        Due.is("no 13th is torn off", x.tear(1), -1);
        Rivers.days(x, 5);
        Due.is("though none is on the river", x.count(8), 0);
        Due.is("no 13th", x.drop(0, 1), -1);
        Twins.refused("drop of 12", Rivers::crowded, y -> y.drop(0, 1), -1);
        Twins.refused("tear of 12", Rivers::crowded, y -> y.tear(1), -1);
        Due.is("who could be torn else", Rivers.rich().tear(1), 6);
        Due.is("in that cell", Rivers.rich().drop(0, 1), 6);
    }

    private static void latterHalf() {
        int[] whole = {12, 123, 1234, 12345, 123456, 1234561, 12345612};
        int[] former = {1, 1, 12, 12, 123, 123, 1234};
        int[] latter = {2, 23, 34, 345, 456, 4561, 5612};
        for (int i = 0; i < whole.length; i++) {
            PaperRiver x = Rivers.with("river 3");
            x.drop(1, whole[i]);
            Due.is("the new one of " + whole[i], x.tear(0), 1);
            Due.is("the former half", x.scrap(0, 1), former[i]);
            Due.is("the latter half", x.scrap(1, 1), latter[i]);
            Due.is("in that cell", x.cell(1, 5), 3);
            Due.is("on the river", x.scrap(1, 3), 0);
            Due.is("of no net", x.scrap(1, 4), -1);
        }
    }

    /** Torn, printed on and joined scraps have as many letters, and those letters, as their texts say. */
    private static void lettersOfTheTorn() {
        PaperRiver x = Rivers.with("river 3;net 1 3;scrap 0 abcde");
        x.tear(0);
        Due.is("the latter, of three, is caught", x.day(), 1);
        Due.is("the former, of two, is not", x.scrap(0, 3), 0);
        Due.is("it is torn again", x.tear(0), 2);
        Due.is("one of one letter is not", x.tear(0), -1);
        Due.is("neither is the other", x.tear(2), -1);
        String[] rules = {"join long=2 and other=1 and same=1 and later=2", "join not [long=2 and other=1 and same=1]"};
        for (int rule = 0; rule < 2; rule++) {
            x = Rivers.with("river 3;scrap 0 abcd", rules[rule]);
            x.tear(0);
            x.drop(0, 1);
            Due.is("ab, cd and a by " + rules[rule], x.day(), rule == 0 ? 1 : 2);
        }
    }

    private static void lettersThatBothHave() {
        PaperRiver x = Rivers.with("river 3;scrap 0 abcd;scrap 0 c", "join same=1");
        x.tear(0);
        Due.is("torn, the former has no c", x.day(), 1);
        Due.is("cd is joined to c", x.scrap(2, 4), 1);
        x = Rivers.with("river 3;mill 1 f;scrap 0 a;scrap 0 b", "join same=1");
        Due.is("f is printed on both", x.day(), 1);
        x = Rivers.with("river 3;mill 1 b;scrap 0 a;scrap 0 b", "join same=1 and other=2 and long=2");
        Due.is("b is printed and was there", x.day(), 1);
        x = Rivers.with("river 3;scrap 0 a;scrap 0 ab;scrap 0 b", "join same=1");
        Due.is("b came by the join", x.day(), 2);
        for (int letter = 1; letter <= 6; letter++) {
            x = Rivers.with("river 4;mill 1 c;flow 3 2;scrap 0 a", "join same=1");
            x.day();
            x.drop(3, letter);
            Due.is("ac, the c printed, and letter " + letter, x.day(), letter == 1 || letter == 3 ? 1 : 0);
        }
    }

    private static void waitsAsLong() {
        PaperRiver x = Rivers.with("river 3;eddy 1 9;scrap 0 ab");
        x.tear(0);
        Due.is("none", x.scrap(1, 2), 0);
        x.undo();
        Rivers.days(x, 3);
        Due.is("some", x.tear(0), 1);
        Due.is("as long", x.scrap(1, 2), 7);
        Due.is("the former waits, too", x.scrap(0, 2), 7);
    }

    private static void tearWithoutThese() {
        refusedOfRich("tear(-1)", x -> x.tear(-1), -1);
        refusedOfRich("tear(6)", x -> x.tear(6), -1);
        refusedOfRich("tear(lowest)", x -> x.tear(LOWEST), -1);
        refusedOfRich("tear(highest)", x -> x.tear(HIGHEST), -1);
        refusedOfRich("tear of one letter", x -> x.tear(5), -1);
        refusedOfRich("tear of one in the sea", x -> x.tear(3), -1);
        Twins.refused("tear of one joined", () -> {
            PaperRiver x = Rivers.with("river 3;scrap 0 ab;scrap 0 ba");
            x.day();
            return x;
        }, x -> x.tear(1), -1);
        Twins.refused("tear of one caught", () -> {
            PaperRiver x = Rivers.with("river 3;net 1 1;scrap 0 ab");
            x.day();
            return x;
        }, x -> x.tear(0), -1);
        Twins.refused("tear without a river", PaperRiver::new, x -> x.tear(0), -1);
    }

    private static void damWithoutOne() {
        int[] cells = {-1, 0, 1, 4, 5, 6, LOWEST, HIGHEST};
        for (int cell : cells) {
            refusedOfRich("dam(" + cell + ", true)", x -> x.dam(cell, true) ? 1 : 0, 0);
            refusedOfRich("dam(" + cell + ", false)", x -> x.dam(cell, false) ? 1 : 0, 0);
        }
        Twins.refused("dam without a river", PaperRiver::new, x -> x.dam(0, false) ? 1 : 0, 0);
    }

    private static void damIsSo() {
        refusedOfRich("dam(2, false), which is shut", x -> x.dam(2, false) ? 1 : 0, 0);
        refusedOfRich("dam(3, true), which is open", x -> x.dam(3, true) ? 1 : 0, 0);
        PaperRiver x = Rivers.rich();
        Due.is("the other way", x.dam(2, true), true);
        Due.is("open", x.cell(2, 3), 1);
        Due.is("the other way", x.dam(3, false), true);
        Due.is("shut", x.cell(3, 3), 2);
        Due.is("the other stays", x.cell(2, 3), 1);
        x = Rivers.with("river 16;dam 12;dam 13;dam 14;dam 15");
        Due.is("the fourth", x.dam(15, false), true);
        Due.is("alone", x.cell(14, 3) * 10 + x.cell(15, 3), 12);
    }

    private static void meshes() {
        PaperRiver x = Rivers.with("river 4;net 1 1");
        int was = 1;
        for (int mesh : new int[] {8, 1, 2, 7, 0, 1, 0, 8, 0}) {
            Due.is("net(1, " + mesh + ")", x.net(1, mesh), was);
            Due.is("its mesh", x.cell(1, 4), mesh);
            Due.is("nets", x.count(3), mesh == 0 ? 0 : 1);
            was = mesh;
        }
        Due.is("acts", x.count(10), 9);
    }

    private static void netWithoutThese() {
        int[] cells = {-1, 6, 16, LOWEST, HIGHEST};
        for (int cell : cells) {
            refusedOfRich("net(" + cell + ", 1)", x -> x.net(cell, 1), -1);
        }
        for (int mesh : new int[] {-1, 9, LOWEST, HIGHEST}) {
            refusedOfRich("net(1, " + mesh + ")", x -> x.net(1, mesh), -1);
            refusedOfRich("net(4, " + mesh + ")", x -> x.net(4, mesh), -1);
        }
        Twins.refused("net without a river", PaperRiver::new, x -> x.net(0, 1), -1);
    }

    private static void netIsSo() {
        refusedOfRich("net(4, 5), as it is", x -> x.net(4, 5), -1);
        refusedOfRich("net(0, 2), as it is", x -> x.net(0, 2), -1);
        refusedOfRich("net(1, 0), where none is", x -> x.net(1, 0), -1);
    }

    private static PaperRiver fiveNets() {
        PaperRiver x = Rivers.with("river 8;net 0 1;net 1 2;net 2 3;net 3 4");
        Due.is("a fifth", x.net(4, 5), 0);
        return x;
    }

    private static void fiveNetsAtMost() {
        PaperRiver x = fiveNets();
        Due.is("nets", x.count(3), 5);
        Twins.refused("a sixth", DayBoundsTest::fiveNets, y -> y.net(5, 1), -1);
        Due.is("another mesh of five", x.net(0, 8), 1);
        Due.is("one taken away", x.net(3, 0), 4);
        Due.is("four", x.count(3), 4);
        Due.is("a fifth again", x.net(7, 8), 0);
        Twins.refused("a sixth", DayBoundsTest::fiveNets, y -> y.net(7, 8), -1);
        x = Rivers.with("river 8;net 0 1;net 1 2;net 2 3;net 3 4;net 4 5");
        Due.is("five told, no sixth", x.net(5, 1), -1);
    }

    private static void lastTwenty() {
        PaperRiver x = Rivers.with("river 3");
        for (int act = 1; act <= 23; act++) {
            x.net(0, 1 + act % 8);
            Due.is("how many can be undone", x.count(10), Math.min(act, 20));
        }
        for (int left = 19; left >= 0; left--) {
            Due.is("how many more", x.undo(), left);
            Due.is("the last first", x.cell(0, 4), 1 + (left + 3) % 8);
        }
        Due.is("no more", x.undo(), -2);
        Due.is("the third act stays", x.cell(0, 4), 4);
        x.net(0, 8);
        Due.is("another act", x.undo(), 0);
        Due.is("undone", x.cell(0, 4), 4);
    }

    private static void twentyExactly() {
        PaperRiver x = Rivers.with("river 3");
        for (int act = 1; act <= 20; act++) {
            x.net(0, 1 + act % 8);
        }
        for (int left = 19; left >= 0; left--) {
            x.undo();
        }
        Due.is("all are undone", x.cell(0, 4), 0);
        Due.is("none more", x.undo(), -2);
    }

    private static void twentyOfMany() {
        for (int acts = 21; acts <= 130; acts++) {
            PaperRiver x = Rivers.with("river 3");
            Rivers.days(x, acts);
            x.image(1);
            undoTwenty(x, acts);
            x.back(1);
            Rivers.days(x, 7);
            undoTwenty(x, acts + 7);
        }
    }

    private static void undoTwenty(PaperRiver x, int acts) {
        for (int left = 19; left >= 0; left--) {
            Due.is("how many more, of " + acts, x.undo(), left);
            Due.is("the day, of " + acts, x.count(7), acts - 20 + left);
        }
        Due.is("no more, of " + acts, x.undo(), -2);
    }

    /** Acts and undos of fixed seeds, held against a row of what was. */
    private static void undoneBetween() {
        for (int run = 0; run < 60; run++) {
            Random random = new Random(run);
            PaperRiver x = Rivers.with("river 3");
            List<Integer> past = new ArrayList<>();
            int mesh = 0;
            for (int call = 0; call < 240; call++) {
                if (random.nextInt(20) < 9 + run % 10) {
                    past.add(mesh);
                    mesh = (mesh + 1 + random.nextInt(8)) % 9;
                    x.net(0, mesh);
                } else {
                    boolean can = past.size() > 0;
                    Due.is("undo()", x.undo(), can ? past.size() - 1 : -2);
                    mesh = can ? past.remove(past.size() - 1) : mesh;
                }
                if (past.size() > 20) {
                    past.remove(0);
                }
                Due.is("what is", x.cell(0, 4), mesh);
                Due.is("what can be undone", x.count(10), past.size());
            }
        }
    }

    private static void noneCanBeUndone() {
        Twins.refused("undo of nothing", PaperRiver::new, PaperRiver::undo, -2);
        Twins.refused("undo of a new river", () -> Rivers.with("river 3;scrap 0 a"), PaperRiver::undo, -2);
        Twins.refused("undo of all undone", () -> {
            PaperRiver x = Rivers.rich();
            while (x.count(10) > 0) {
                x.undo();
            }
            return x;
        }, PaperRiver::undo, -2);
    }

    /** Each act, undone, leaves all as if it had not been. */
    private static void actsUndone() {
        Twins.unchanged("a day undone", Rivers::rich, x -> x.day() + x.undo());
        Twins.unchanged("a drop undone", Rivers::rich, x -> x.drop(5, 66) + x.undo());
        Twins.unchanged("a tear undone", Rivers::rich, x -> x.tear(0) + x.undo());
        Twins.unchanged("a dam undone", Rivers::rich, x -> (x.dam(2, true) ? 1 : 0) + x.undo());
        Twins.unchanged("a net undone", Rivers::rich, x -> x.net(4, 0) + x.undo());
        Twins.unchanged("all of them undone", Rivers::rich, x -> {
            Rivers.days(x, 4);
            x.drop(5, 66);
            x.tear(6);
            x.dam(3, false);
            x.net(1, 1);
            int acts = 0;
            while (acts < 8) {
                x.undo();
                acts++;
            }
            return acts;
        });
    }

    private static void whatIsNoAct() {
        PaperRiver x = Rivers.rich();
        int acts = x.count(10);
        x.seed(5);
        x.force(1);
        x.image(2);
        x.end(0);
        Rivers.law(x, "join 1=1");
        x.ahead(0, 60, 0);
        x.years(10, 60, 0);
        Due.is("acts", x.count(10), acts);
        x.undo();
        Due.is("x stays", x.count(11), 5);
        Due.is("the rule in force stays", x.count(6), 1);
        Due.is("rules stay", x.count(5), 3);
    }

    public static void main(String[] args) {
        Due.sentence("one in a cell with a DAM that is shut stays", DayBoundsTest::shutDams);
        Due.sentence("one that has DAYS to wait waits, one less then", DayBoundsTest::daysToWait);
        Due.sentence("Who comes into a cell with an EDDY has its DAYS to wait then", DayBoundsTest::whoComesIn);
        Due.sentence("into one with a MILL, gets its LETTER behind, if it has fewer than 8", DayBoundsTest::eightLettersOfAMill);
        Due.sentence("or is in the SEA", DayBoundsTest::intoTheSea);
        Due.sentence("the first such two again and again (by the one, then the later one)", DayBoundsTest::theFirstSuchTwo);
        Due.sentence("if together they have 8 LETTERS at most", DayBoundsTest::eightLettersOfAJoin);
        Due.sentence("the later one is JOINED to it", DayBoundsTest::joined);
        Due.sentence("SCRAPS of as many LETTERS as its MESH, or more, are CAUGHT", DayBoundsTest::meshOfANet);
        Due.sentence("day: how many SCRAPS left the river", DayBoundsTest::whoLeft);
        Due.sentence("DAY is 1 more (999 at most); NONE, and nothing happens, without a RIVER, or at DAY 999",
            DayBoundsTest::day999);
        Due.sentence("drop: the number of the SCRAP; a text: digits 1 to 6, 8 at most", DayBoundsTest::dropped);
        Due.sentence("drop: NONE, and nothing happens, without these", DayBoundsTest::dropWithoutThese);
        Due.sentence("12 are told or dropped at most, torn off ones with these", DayBoundsTest::twelve);
        Due.sentence("2 LETTERS or more (the latter half, one more than the former of an odd number)", DayBoundsTest::latterHalf);
        Due.sentence("the latter half of them is a new SCRAP", DayBoundsTest::lettersOfTheTorn);
        Due.sentence("same, of LETTERS torn, printed, joined", DayBoundsTest::lettersThatBothHave);
        Due.sentence("in that cell that waits as long", DayBoundsTest::waitsAsLong);
        Due.sentence("tear: NONE, and nothing happens, without these", DayBoundsTest::tearWithoutThese);
        Due.sentence("dam: false, and nothing happens, without one", DayBoundsTest::damWithoutOne);
        Due.sentence("dam: false, and nothing happens, if it is so", DayBoundsTest::damIsSo);
        Due.sentence("net: MESH 0 to 8; the MESH there was (0: no NET)", DayBoundsTest::meshes);
        Due.sentence("net: NONE, and nothing happens, without these", DayBoundsTest::netWithoutThese);
        Due.sentence("net: NONE, and nothing happens, if it is so", DayBoundsTest::netIsSo);
        Due.sentence("net: NONE, and nothing happens, if there would be more than 5", DayBoundsTest::fiveNetsAtMost);
        Due.sentence("The last 20 ACTS can be UNDONE, the last first", DayBoundsTest::lastTwenty);
        Due.sentence("The last 20 ACTS can be UNDONE: 20 of 20", DayBoundsTest::twentyExactly);
        Due.sentence("The last 20 ACTS can be UNDONE: 20 of many", DayBoundsTest::twentyOfMany);
        Due.sentence("The last ACT is UNDONE: how many more can be", DayBoundsTest::undoneBetween);
        Due.sentence("undo: -2, and nothing happens: none can", DayBoundsTest::noneCanBeUndone);
        Due.sentence("ACTS: a DAY; DROP; TEAR; DAM; NET: undone", DayBoundsTest::actsUndone);
        Due.sentence("ACTS: no others", DayBoundsTest::whatIsNoAct);
        Due.end();
    }
}
