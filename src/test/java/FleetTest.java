import java.util.Random;

/**
 * FLEET leaves sets of cells untried where a net would change nothing. Here all of them are tried, each on an object of
 * its own on which the nets are set by hand and the days are passed by hand: the answer must be the same.
 */
public final class FleetTest {
    private static final int DAYS = 60;
    private static final int CAUGHT = 2;
    private static final int JOINED = 3;
    private static final String[] RULES = {"", "join 1=1", "join 1=2", "join day>4", "join long=other", "join many>2",
        "join wait>0;join last=first", "join cell%2=1 and same>0"};

    private static int wrong = 0;
    /** How many answers were of so many cells; the last: there are none. */
    private static final int[] sizes = new int[5];

    private final Random random;
    private final int cells;
    private final String river;
    private final String rule;
    private final int shutDam;
    private final int daysPassed;

    private FleetTest(int run) {
        random = new Random(run);
        cells = 4 + below(13);
        StringBuilder s = new StringBuilder("river ").append(cells);
        tellFlows(s);
        tellOthers(s);
        river = s.toString();
        rule = RULES[below(RULES.length)];
        shutDam = chance(40) ? below(cells) : PaperRiver.NONE;
        daysPassed = chance(30) ? below(4) : 0;
    }

    private FleetTest(String river, String rule, int daysPassed) {
        random = new Random(0);
        cells = 16;
        this.river = river;
        this.rule = rule;
        this.daysPassed = daysPassed;
        shutDam = PaperRiver.NONE;
    }

    private int below(int n) {
        return random.nextInt(n);
    }

    private boolean chance(int percent) {
        return below(100) < percent;
    }

    /** Arms that end in the sea, in another arm, or in a ring. */
    private void tellFlows(StringBuilder s) {
        int ends = 2 + below(5);
        for (int i = 0; i < ends; i++) {
            int cell = below(cells);
            if (chance(60)) {
                s.append(";mouth ").append(cell);
            } else {
                s.append(";flow ").append(cell).append(" ").append((cell + 1 + below(cells - 1)) % cells);
            }
        }
    }

    /** Two nets at most, as three more are set by hand and five are the most. */
    private void tellOthers(StringBuilder s) {
        int net = below(cells);
        if (chance(40)) {
            s.append(";net ").append(net).append(" ").append(1 + below(5));
        }
        if (chance(20)) {
            s.append(";net ").append((net + 1) % cells).append(" ").append(1 + below(5));
        }
        for (int i = below(4); i > 0; i--) {
            s.append(";eddy ").append(below(cells)).append(" ").append(1 + below(chance(80) ? 3 : 9));
        }
        int thing = below(cells);
        for (int i = below(3); i > 0; i--) {
            s.append(";mill ").append((thing + i) % cells).append(" ").append((char) ('a' + below(3)));
            s.append(";dam ").append((thing + 2 * i) % cells);
        }
        for (int i = 1 + below(10); i > 0; i--) {
            s.append(";scrap ").append(below(cells)).append(" ");
            for (int letters = 1 + below(4); letters > 0; letters--) {
                s.append((char) ('a' + below(3)));
            }
        }
    }

    /** The object as it is when FLEET is asked. */
    private PaperRiver made() {
        PaperRiver x = new PaperRiver();
        Texts.feed(x, river);
        x.river();
        if (!rule.isEmpty()) {
            Texts.feed(x, rule);
            x.force(x.rule());
        }
        x.dam(shutDam, false);
        Rivers.days(x, daysPassed);
        return x;
    }

    private boolean gets(int set, int scraps) {
        PaperRiver x = made();
        for (int cell = 0; cell < cells; cell++) {
            if ((set >> cell & 1) == 1 && x.net(cell, 1) != 0) {
                return false;
            }
        }
        Rivers.days(x, DAYS);
        for (int scrap = 0; scrap < x.count(4); scrap++) {
            if ((scraps >> scrap & 1) == 1 && !isGot(x, scrap)) {
                return false;
            }
        }
        return true;
    }

    private static boolean isGot(PaperRiver x, int scrap) {
        int at = scrap;
        while (x.scrap(at, 3) == JOINED) {
            at = x.scrap(at, 4);
        }
        return x.scrap(at, 3) == CAUGHT;
    }

    private int fewest(int scraps) {
        for (int size = 0; size <= 3; size++) {
            for (int set = 0; set < 1 << cells; set++) {
                if (Integer.bitCount(set) == size && gets(set, scraps)) {
                    return set;
                }
            }
        }
        return -2;
    }

    /** Those that can be got at all: mostly it takes more than one net for all of them. */
    private int gotOneByOne(PaperRiver x) {
        int all = x.count(8);
        int each = 0;
        for (int scrap = 0; scrap < x.count(4); scrap++) {
            if ((all >> scrap & 1) == 1 && x.fleet(1 << scrap, 0) > 0) {
                each |= 1 << scrap;
            }
        }
        return each;
    }

    private void due(PaperRiver x, int scraps) {
        due(x, scraps, fewest(scraps));
    }

    private void due(PaperRiver x, int scraps, int want) {
        int many = want < 0 ? -2 : Integer.bitCount(want);
        sizes[want < 0 ? 4 : many]++;
        int gotMany = x.fleet(scraps, 0);
        int got = x.fleet(scraps, 1);
        if (got != want || gotMany != many) {
            wrong++;
            System.out.println("fleet(" + scraps + ", 0) and (.., 1) are " + gotMany + " and " + got + ", due are " + many
                + " and " + want + ": '" + river + "', '" + rule + "', dam " + shutDam + " shut, day " + daysPassed);
        }
    }

    /**
     * With a net in c scrap 0 is caught there, so that scrap 1, which would have been joined to it and caught by the
     * net in cell 4, is lost soon, long ahead of the day on which scrap 2 comes where alone it can be got: that c is of
     * no use says nothing of the cells that come up later.
     */
    private static void lostAheadOfTheOther() {
        String arms = "flow 8 5;flow 6 3;mouth 4;net 4 2;flow 9 14;eddy 14 9;net 14 8;scrap 7 a;scrap 8 b;scrap 9 c";
        FleetTest one = new FleetTest("river 16;flow 7 2;flow 2 0;flow 0 3;" + arms, "join 1=1", 1);
        one.due(one.made(), 6, 1 << 15);
        FleetTest three = new FleetTest("river 16;flow 7 2;flow 2 13;flow 13 3;flow 11 0;mouth 0;eddy 0 2;flow 12 1;"
            + "mouth 1;eddy 1 2;" + arms + ";scrap 11 d;scrap 12 e", "join 1=1", 1);
        three.due(three.made(), 30, 1 << 15 | 3);
    }

    public static void main(String[] args) {
        lostAheadOfTheOther();
        int runs = args.length > 0 ? Integer.parseInt(args[0]) : 1000;
        for (int run = 0; run < runs && wrong < 10; run++) {
            FleetTest test = new FleetTest(run);
            PaperRiver x = test.made();
            test.due(x, x.count(8));
            int each = test.gotOneByOne(x);
            test.due(x, each);
            test.due(x, each & test.below(1 << 10));
        }
        System.out.println("answers of 0, 1, 2, 3 cells, of none: " + sizes[0] + ", " + sizes[1] + ", " + sizes[2] + ", "
            + sizes[3] + ", " + sizes[4]);
        if (wrong != 0) {
            System.exit(1);
        }
    }
}
