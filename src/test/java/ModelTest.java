import java.util.Random;

/** Random runs (of fixed seeds) on PaperRiver and on the Model: every answer must be the same. */
public final class ModelTest {
    private static final String[] VALUES = {"long", "other", "last", "first", "same", "cell", "day", "one", "later",
        "many", "wait"};
    private static final String[] SIGNS = {"<", "<=", "=", ">=", ">"};
    private static final String[] SCRAWL = {";", "[", "]", " ", "0", "9", "a", "f", "g", "not ", "and ", " or ", "join ",
        "river ", "123456", "<", "=", ">", "+", "-", "*", "/", "%", "\u00e9", "\0", "A", "scrap 0 a", ";dam 1", ";mill 0 a"};

    private static int wrong = 0;

    private final Random random;
    private final int run;
    private final PaperRiver river = new PaperRiver();
    private final Model model = new Model();
    private int lastCells = 4;
    /** Cells that have a mill, a dam, a net already, as bits: mostly another is told. */
    private final int[] taken = new int[3];

    private ModelTest(int run) {
        this.run = run;
        this.random = new Random(run);
    }

    public static void main(String[] args) {
        int runs = args.length > 0 ? Integer.parseInt(args[0]) : 700;
        for (int run = 0; run < runs && wrong < 20; run++) {
            new ModelTest(run).go();
        }
        System.out.println(wrong == 0 ? "all answers are the model's" : wrong + " answers are not the model's");
        if (wrong != 0) {
            System.exit(1);
        }
    }

    private int below(int n) {
        return random.nextInt(n);
    }

    private boolean chance(int percent) {
        return below(100) < percent;
    }

    private void due(String call, int got, int want) {
        if (got != want) {
            wrong++;
            System.out.println("run " + run + ": " + call + " answered " + got + ", the model says " + want);
        }
    }

    private void go() {
        if (run % 7 == 0) {
            askFleets();
        }
        tellRiver();
        if (chance(60)) {
            tellRule();
            force(0);
        }
        int calls = 20 + below(60);
        for (int i = 0; i < calls && wrong < 20; i++) {
            call();
            if (chance(10)) {
                audit();
            }
        }
        audit();
    }

    /** A river of several short arms, where more than one net is needed. */
    private void askFleets() {
        lastCells = 6 + below(11);
        int arm = 2 + below(3);
        StringBuilder s = new StringBuilder("river ").append(lastCells);
        for (int cell = arm - 1; cell < lastCells; cell += arm) {
            s.append(chance(85) ? ";mouth " + cell : ";flow " + cell + " " + below(cell));
        }
        int scraps = 2 + below(9);
        for (int i = 0; i < scraps; i++) {
            int cell = below(lastCells);
            s.append(";scrap ").append(cell % arm == arm - 1 ? cell - 1 : cell).append(" ").append(letters(3));
        }
        if (chance(30)) {
            s.append(";net ").append(below(lastCells)).append(" 2;dam ").append(below(lastCells));
        }
        feed(s.toString());
        due("river() of " + s, river.river(), model.river());
        for (int i = 0; i < 4; i++) {
            int set = set();
            due("fleet(" + set + ", 0)", river.fleet(set, 0), model.fleet(set, 0));
            due("fleet(" + set + ", 1)", river.fleet(set, 1), model.fleet(set, 1));
            act();
        }
    }

    private void audit() {
        for (int what = -1; what <= 13; what++) {
            due("count(" + what + ")", river.count(what), model.count(what));
        }
        for (int cell = -1; cell <= 16; cell++) {
            for (int what = -1; what <= 6; what++) {
                due("cell(" + cell + ", " + what + ")", river.cell(cell, what), model.cell(cell, what));
            }
        }
        for (int scrap = -1; scrap <= 12; scrap++) {
            for (int what = -1; what <= 6; what++) {
                due("scrap(" + scrap + ", " + what + ")", river.scrap(scrap, what), model.scrap(scrap, what));
            }
        }
        for (int mill = -1; mill <= 6; mill++) {
            for (int part = -1; part <= 2; part++) {
                due("share(" + mill + ", " + part + ")", river.share(mill, part), model.share(mill, part));
            }
        }
    }

    private void feed(String text) {
        String told = text.substring(0, Math.min(400, text.length()));
        for (int from = 0; from < told.length(); from += 20) {
            int[] five = Texts.five(told, from);
            due("feed", river.feed(five[0], five[1], five[2], five[3], five[4]),
                model.feed(five[0], five[1], five[2], five[3], five[4]));
        }
        due("end(" + told.length() + ")", river.end(told.length()), model.end(told.length()));
    }

    private String blank() {
        return chance(15) ? " ".repeat(1 + below(3)) : "";
    }

    private String letters(int most) {
        StringBuilder s = new StringBuilder();
        int many = 1 + below(most);
        for (int i = 0; i < many; i++) {
            s.append((char) ('a' + below(chance(50) ? 2 : 6)));
        }
        return s.toString();
    }

    private int text() {
        if (chance(5)) {
            return below(100) - 20;
        }
        int text = 0;
        int many = 1 + below(chance(20) ? 9 : 3);
        for (int i = 0; i < many; i++) {
            text = text * 10 + 1 + below(chance(60) ? 2 : 6);
        }
        return text;
    }

    private String mutated(String text) {
        StringBuilder s = new StringBuilder(text);
        int times = 1 + below(2);
        for (int i = 0; i < times; i++) {
            int at = below(s.length() + 1);
            int how = below(4);
            if (how == 0 && at < s.length()) {
                s.deleteCharAt(at);
            } else if (how == 1 && at < s.length()) {
                s.setLength(at);
            } else {
                s.insert(at, SCRAWL[below(SCRAWL.length)]);
            }
        }
        return s.toString();
    }

    private void tellRiver() {
        lastCells = 2 + below(chance(50) ? 5 : 15);
        StringBuilder s = new StringBuilder(blank()).append("river").append(blank()).append(lastCells);
        int clauses = chance(5) ? 30 + below(15) : 2 + below(14);
        for (int i = 0; i < 3; i++) {
            taken[i] = 0;
        }
        if (chance(40)) {
            s.append(";flow ").append(lastCells - 1).append(" ").append(below(lastCells - 1));
        }
        boolean branches = chance(40);
        for (int i = 0; branches && i < lastCells / 2; i++) {
            s.append(";mouth ").append(below(lastCells));
        }
        for (int i = 0; i < clauses; i++) {
            s.append(blank()).append(";").append(blank()).append(clause());
        }
        String text = chance(12) ? mutated(s.toString()) : s.toString();
        feed(text);
        due("river() of " + text, river.river(), model.river());
    }

    private String clause() {
        int cell = below(chance(99) ? lastCells : lastCells + 1);
        String at = " " + blank() + cell + " " + blank();
        return switch (below(chance(70) ? 12 : 8)) {
            case 0 -> "flow" + at + (chance(95) ? (cell + 1 + below(lastCells - 1)) % lastCells : below(lastCells));
            case 1 -> chance(70) ? "scrap" + at + letters(2) : "mouth" + at;
            case 2 -> "eddy" + at + (chance(98) ? 1 + below(chance(20) ? 9 : 3) : below(12));
            case 3 -> "mill " + free(0) + " " + letters(1);
            case 4 -> "dam " + free(1);
            case 5 -> "net " + free(2) + " " + (chance(98) ? 1 + below(8) : below(12));
            default -> "scrap" + at + letters(chance(98) ? 4 : 9);
        };
    }

    private int free(int kind) {
        int cell = below(lastCells);
        for (int i = 0; i < 20 && (taken[kind] >> cell & 1) == 1 && chance(99); i++) {
            cell = below(lastCells);
        }
        taken[kind] |= 1 << cell;
        return cell;
    }

    private void tellRule() {
        StringBuilder s = new StringBuilder();
        int clauses = chance(5) ? 10 + below(5) : 1 + below(3);
        for (int i = 0; i < clauses; i++) {
            s.append(i == 0 ? "" : ";").append(blank()).append("join ").append(test(0)).append(blank());
        }
        String text = chance(30) ? mutated(s.toString()) : s.toString();
        feed(text);
        due("rule() of " + text, river.rule(), model.rule());
    }

    private String test(int depth) {
        StringBuilder s = new StringBuilder(fact(depth));
        while (chance(35)) {
            s.append(chance(50) ? " and " : " or ").append(fact(depth));
        }
        return s.toString();
    }

    private String fact(int depth) {
        if (depth == 0 && chance(3)) {
            int deep = 8 + below(5);
            StringBuilder s = new StringBuilder();
            for (int i = 0; i < deep; i++) {
                s.append(chance(90) ? "not " : "[");
            }
            return s.append(sum()).append("=1").append(chance(50) ? "]" : "").toString();
        }
        if (depth < 12 && chance(20)) {
            return chance(50) ? "not " + fact(depth + 1) : "[" + test(depth + 3) + "]";
        }
        return sum() + blank() + SIGNS[below(5)] + blank() + sum();
    }

    private String sum() {
        StringBuilder s = new StringBuilder(value());
        while (chance(30)) {
            s.append(blank()).append("+-*/%".charAt(below(5))).append(blank()).append(value());
        }
        return s.toString();
    }

    private String value() {
        if (chance(30)) {
            return Integer.toString(chance(95) ? below(7) : below(200000));
        }
        return VALUES[below(VALUES.length)];
    }

    private void force(int rule) {
        due("force(" + rule + ")", river.force(rule), model.force(rule));
    }

    private int what(int most) {
        return chance(97) ? below(most + 1) : below(most + 4) - 1;
    }

    private int days() {
        return chance(95) ? 1 + below(chance(50) ? 8 : 60) : below(70) - 5;
    }

    private int aCell() {
        return chance(97) ? below(lastCells) : below(20) - 2;
    }

    private int set() {
        return chance(40) ? model.count(8) : chance(95) ? below(1 << 12) & model.count(8) : below(1 << 13) - 5;
    }

    private void call() {
        if (chance(50)) {
            act();
        } else {
            ask();
        }
    }

    private void act() {
        int cell = aCell();
        int scrap = below(13);
        int mesh = chance(95) ? below(9) : below(12) - 2;
        int text = text();
        boolean open = chance(50);
        int k = chance(95) ? below(4) : below(8) - 2;
        switch (below(20)) {
            case 0, 1, 2, 3, 4, 5 -> due("day()", river.day(), model.day());
            case 6, 7, 8 -> due("drop(" + cell + ", " + text + ")", river.drop(cell, text), model.drop(cell, text));
            case 9 -> due("tear(" + scrap + ")", river.tear(scrap), model.tear(scrap));
            case 10, 11 -> due("dam(" + cell + ", " + open + ")", river.dam(cell, open) ? 1 : 0,
                model.dam(cell, open) ? 1 : 0);
            case 12, 13 -> due("net(" + cell + ", " + mesh + ")", river.net(cell, mesh), model.net(cell, mesh));
            case 14, 15 -> due("undo()", river.undo(), model.undo());
            case 16 -> due("image(" + k + ")", river.image(k), model.image(k));
            case 17 -> due("back(" + k + ")", river.back(k), model.back(k));
            case 18 -> {
                int rule = below(8) - 2;
                force(rule);
                int x = random.nextInt();
                due("seed(" + x + ")", river.seed(x), model.seed(x));
            }
            default -> {
                if (chance(20)) {
                    tellRiver();
                } else {
                    tellRule();
                }
            }
        }
    }

    private void ask() {
        int cell = aCell();
        int n = days();
        int scrap = chance(95) ? below(12) : below(20) - 3;
        int text = text();
        int set = set();
        int what = what(1);
        int what2 = what(2);
        switch (below(10)) {
            case 0 -> due("ahead(" + scrap + ", " + n + ", " + what2 + ")", river.ahead(scrap, n, what2),
                model.ahead(scrap, n, what2));
            case 1 -> {
                int k = below(8) - 1;
                due("mouth(" + k + ", " + what2 + ")", river.mouth(k, what2), model.mouth(k, what2));
            }
            case 2 -> {
                if (chance(25)) {
                    due("fleet(" + set + ", " + what + ")", river.fleet(set, what), model.fleet(set, what));
                }
            }
            case 3 -> due("put(" + text + ", " + cell + ", " + n + ", " + what + ")", river.put(text, cell, n, what),
                model.put(text, cell, n, what));
            case 4 -> {
                int some = chance(90) ? below(1 << model.count(4)) & below(1 << 12) : below(1 << 13) - 9;
                int place = what(12);
                due("rows(" + some + ", 0)", river.rows(some, 0), model.rows(some, 0));
                due("rows(" + some + ", " + place + ")", river.rows(some, place), model.rows(some, place));
            }
            case 5 -> due("seen(" + text + ", " + cell + ", " + what2 + ")", river.seen(text, cell, what2),
                model.seen(text, cell, what2));
            case 6 -> due("gates(" + n + ", " + what + ")", river.gates(n, what), model.gates(n, what));
            case 7 -> due("round(" + cell + ", " + what + ")", river.round(cell, what), model.round(cell, what));
            default -> {
                int m = chance(95) ? 1 + below(10) : below(14) - 1;
                due("years(" + m + ", " + n + ", " + what2 + ")", river.years(m, n, what2), model.years(m, n, what2));
            }
        }
    }
}
