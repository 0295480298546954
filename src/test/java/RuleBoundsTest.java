import java.util.List;

/** The bounds of a RULE's text, its FAULTS, what its WORDS and signs mean at their edges; a sentence a test. */
public final class RuleBoundsTest {
    private static final List<String> WORDS = List.of("long", "other", "last", "first", "same", "cell", "day", "one",
        "later", "many", "wait");
    /** 2 to the 63rd, which is below 0 in 64 bits: the only way to a dividend below 0. */
    private static final String LOWEST = "65536*65536*65536*32768";

    private RuleBoundsTest() {
    }

    /** Whether the two scraps, dropped in one cell, are joined on day 0 by the rule. */
    private static boolean joins(String one, String later, String rule) {
        return Rivers.with("river 3;scrap 0 " + one + ";scrap 0 " + later, rule).day() == 1;
    }

    private static void holds(String test, boolean due) {
        Due.is("whether " + test, joins("a", "b", "join " + test), due);
    }

    private static void bytesOfARule() {
        PaperRiver x = Rivers.with("river 2;scrap 0 a;scrap 0 b");
        String text = "join 1=2;join later=1";
        Due.is("400 bytes", Rivers.law(x, " ".repeat(400 - text.length()) + text), 0);
        x.force(0);
        Due.is("the last of its bytes is read", x.day(), 1);
        Rivers.ruleFault(" ".repeat(393) + "join 1=", 400, Rivers.SYNTAX);
        Rivers.ruleFault("join 1=1" + " ".repeat(391) + "x", 399, Rivers.SYNTAX);
    }

    private static void clausesOfARule() {
        String eleven = "join 1=2" + ";join 1=2".repeat(10);
        Due.is("the 12th is heeded", joins("a", "b", eleven + ";join 1=1"), true);
        Due.is("none of 12 holds", joins("a", "b", eleven + ";join 2=1"), false);
        Rivers.ruleIs("join 1=1", 0);
    }

    private static void aClauseTooMany() {
        String twelve = "join 1=2" + ";join 1=2".repeat(11);
        Rivers.ruleFault(twelve + ";join 1=1", 108, Rivers.CLAUSE);
        Rivers.ruleFault(twelve + ";   join", 111, Rivers.CLAUSE);
        Rivers.ruleFault(twelve + ";joins 1=1", 108, Rivers.SYNTAX);
        Rivers.ruleFault(twelve + ";river 2", 108, Rivers.SYNTAX);
        Rivers.ruleFault(twelve + ";", 108, Rivers.SYNTAX);
    }

    private static void numbers() {
        holds("99999=99998+1", true);
        Rivers.ruleIs("join 00000=00001", 0);
        Rivers.ruleFault("join 100000=1", 5, Rivers.NUMBER);
        Rivers.ruleFault("join 000001=1", 5, Rivers.NUMBER);
        Rivers.ruleFault("join 1=1+100000", 9, Rivers.NUMBER);
        Rivers.ruleFault("join 18446744073709551617=1", 5, Rivers.NUMBER);
        Rivers.ruleFault("join 12 3=1", 8, Rivers.SYNTAX);
    }

    private static void words() {
        for (String word : WORDS) {
            Rivers.ruleIs("join " + word + "=" + word, 0);
            Rivers.ruleIs("join" + " ".repeat(3) + word + "<1", 0);
            Rivers.ruleFault("join " + word.substring(1) + "=1", 5, Rivers.SYNTAX);
            Rivers.ruleFault("join " + word.substring(0, word.length() - 1) + "=1", 5, Rivers.SYNTAX);
            Rivers.ruleFault("join " + word + "s=1", 5, Rivers.SYNTAX);
            Rivers.ruleFault("join " + word + "long=1", 5, Rivers.SYNTAX);
            Rivers.ruleFault("join " + word.toUpperCase() + "=1", 5, Rivers.SYNTAX);
            Rivers.ruleFault("join " + word + "1=1", 5 + word.length(), Rivers.SYNTAX);
            Rivers.ruleFault("join 1=" + word + " " + word, 8 + word.length(), Rivers.SYNTAX);
        }
    }

    private static void wordsThatCantStandThere() {
        for (String word : new String[] {"and", "or", "join", "river", "notlong", "a", "z"}) {
            Rivers.ruleFault("join " + word + "=1", 5, Rivers.SYNTAX);
            Rivers.ruleFault("join 1= " + word, 8, Rivers.SYNTAX);
        }
        Rivers.ruleFault("join 1=not 1", 7, Rivers.SYNTAX);
        Rivers.ruleFault("join not=1", 8, Rivers.SYNTAX);
        for (String word : new String[] {"not", "join", "long", "andy", "ore", "an", "o"}) {
            Rivers.ruleFault("join 1=1 " + word + " 1=1", 9, Rivers.SYNTAX);
        }
        for (String word : new String[] {"joi", "joins", "river", "not", "Join", ";", "1=1"}) {
            Rivers.ruleFault(word + " 1=1", 0, Rivers.SYNTAX);
            Rivers.ruleFault("join 1=1;" + word + " 1=1", 9, Rivers.SYNTAX);
        }
    }

    /** Each byte behind what is told already, of all 256. */
    private static void bytesThatCantStandThere() {
        for (int b = 0; b < 256; b++) {
            char sign = (char) b;
            boolean digit = sign >= '0' && sign <= '9';
            boolean reckons = "+-*/%".indexOf(sign) >= 0;
            boolean compares = "<=>".indexOf(sign) >= 0;
            int inSum = reckons || digit ? Rivers.fault(8, Rivers.SYNTAX) : Rivers.fault(sign == ' ' ? 7 : 6, Rivers.SYNTAX);
            Rivers.ruleIs("join 1" + sign + "1", compares ? 0 : inSum);
            int behindTest = Rivers.fault(reckons || sign == ';' ? 9 : 8, Rivers.SYNTAX);
            Rivers.ruleIs("join 1=1" + sign, digit || sign == ' ' ? 0 : behindTest);
            int asFact = Rivers.fault(sign == '[' || sign == ' ' ? 6 : 5, Rivers.SYNTAX);
            Rivers.ruleIs("join " + sign + "=1", digit ? 0 : asFact);
            int behindSign = Rivers.fault(sign == '=' || sign == ' ' ? 8 : 7, Rivers.SYNTAX);
            Rivers.ruleIs("join 1<" + sign, digit ? 0 : behindSign);
            int inBrackets = Rivers.fault(reckons || digit || sign == ' ' ? 10 : 9, Rivers.SYNTAX);
            Rivers.ruleIs("join [1=1" + sign, sign == ']' ? 0 : inBrackets);
        }
    }

    private static void theEnd() {
        String[] cut = {"", "join", "join 1", "join 1+", "join 1=", "join 1<=", "join 1=1 and", "join 1=1 or", "join not",
            "join [", "join [1=1", "join 1=1;", "join 1=2*"};
        for (String text : cut) {
            Rivers.ruleFault(text, text.length(), Rivers.SYNTAX);
            Rivers.ruleFault(text + "   ", text.length() + 3, Rivers.SYNTAX);
        }
    }

    private static void signs() {
        String[] signs = {"<", "<=", "=", ">=", ">"};
        boolean[][] due = {{true, false, false}, {true, true, false}, {false, true, false}, {false, true, true},
            {false, false, true}};
        for (int i = 0; i < signs.length; i++) {
            holds("1" + signs[i] + "2", due[i][0]);
            holds("2" + signs[i] + "2", due[i][1]);
            holds("3" + signs[i] + "2", due[i][2]);
            for (int value = 1; value <= 3; value++) {
                String fact = value + signs[i] + "2";
                holds("not " + fact, !due[i][value - 1]);
                holds(fact + " and 1=1", due[i][value - 1]);
                holds("1=1 and not " + fact, !due[i][value - 1]);
                holds(fact + " or 1=2", due[i][value - 1]);
            }
            Rivers.ruleFault("join 1 " + signs[i] + "<1", 7 + signs[i].length(), Rivers.SYNTAX);
            Rivers.ruleFault("join 1 " + signs[i] + " =1", 8 + signs[i].length(), Rivers.SYNTAX);
        }
    }

    private static void testsPartsFacts() {
        holds("1=1 or 1=1 and 1=2", true);
        holds("1=2 and 1=1 or 1=1", true);
        holds("[1=1 or 1=1] and 1=2", false);
        holds("1=2 or 1=2 or 1=1", true);
        holds("1=1 and 1=1 and 1=2", false);
        holds("not 1=2 and 1=2", false);
        holds("not [1=2 and 1=2]", true);
        holds("not not not 1=1", false);
        holds("not 1=1 or 1=1", true);
        Rivers.ruleFault("join [1]=1", 7, Rivers.SYNTAX);
        Rivers.ruleFault("join []", 6, Rivers.SYNTAX);
        Rivers.ruleFault("join 1=1]", 8, Rivers.SYNTAX);
        Rivers.ruleFault("join [1=1;join 1=1]", 9, Rivers.SYNTAX);
    }

    private static void blanksBetween() {
        holds("  1  =  1  and  not  [  1  =  2  or  2  <=  1  ]  ", true);
        Rivers.ruleIs("   join   1   =   1   ;   join   1   >=   long   *   2   ", 0);
        Rivers.ruleIs("join1=1and2=2or not[3=3];join long+1<=other%2", 0);
        Rivers.ruleFault("jo in 1=1", 0, Rivers.SYNTAX);
        Rivers.ruleFault("join lo ng=1", 5, Rivers.SYNTAX);
        Rivers.ruleFault("join 1 1=1", 7, Rivers.SYNTAX);
        Rivers.ruleFault("join 1> =1", 8, Rivers.SYNTAX);
        Rivers.ruleFault("join\t1=1", 4, Rivers.SYNTAX);
        Rivers.ruleFault("join 1=1\n", 8, Rivers.SYNTAX);
    }

    private static void tenDeep() {
        String open = "[".repeat(10);
        String shut = "]".repeat(10);
        Rivers.ruleIs("join " + open + "1=1" + shut, 0);
        Rivers.ruleIs("join " + "not ".repeat(10) + "1=1", 0);
        Rivers.ruleIs("join " + "not[".repeat(5) + "1=1" + "]".repeat(5), 0);
        Rivers.ruleIs("join " + open + "1=1" + shut + "and" + open + "1=1" + shut, 0);
        Rivers.ruleIs("join " + open + "1=1" + shut + ";join " + open + "1=1" + shut, 0);
        Rivers.ruleIs("join 1=1" + " and not 1=1".repeat(14) + " and [1=1]".repeat(5), 0);
        Due.is("ten of them", joins("a", "b", "join " + "not ".repeat(10) + "1=1"), true);
        Due.is("nine of them", joins("a", "b", "join " + "not ".repeat(9) + "1=1"), false);
    }

    private static void tooDeep() {
        Rivers.ruleFault("join " + "[".repeat(11) + "1=1", 15, Rivers.DEEP);
        Rivers.ruleFault("join " + "[".repeat(10) + "  [", 17, Rivers.DEEP);
        Rivers.ruleFault("join " + "not ".repeat(11) + "1=1", 45, Rivers.DEEP);
        Rivers.ruleFault("join " + "not ".repeat(10) + " not", 46, Rivers.DEEP);
        Rivers.ruleFault("join " + "[".repeat(10) + "not 1=1", 15, Rivers.DEEP);
        Rivers.ruleFault("join " + "not ".repeat(10) + "[1=1]", 45, Rivers.DEEP);
        Rivers.ruleFault("join " + "not[".repeat(5) + "1=1 or not 1=1", 32, Rivers.DEEP);
        Rivers.ruleFault("join " + "[".repeat(10) + "nots 1=1", 15, Rivers.SYNTAX);
        Rivers.ruleFault("join 1=1;join " + "[".repeat(11), 24, Rivers.DEEP);
    }

    private static void sixtyTogether() {
        Rivers.ruleIs("join 1" + "+1".repeat(57) + "=1", 0);
        Rivers.ruleIs("join 1=1" + " and 1=1".repeat(19), 0);
        Rivers.ruleIs("join 1=1" + ";join 1=1".repeat(10) + ";join 1" + "*1".repeat(24) + "<=1", 0);
        Rivers.ruleIs("join [1=1]" + "or not[1=1]".repeat(19), 0);
        Due.is("the 60th is heeded", joins("a", "b", "join 1=2" + " or 1=2".repeat(18) + " or 1=1"), true);
        Due.is("58 of them", joins("a", "b", "join 57=1" + "*1".repeat(55) + "*57"), true);
    }

    private static void oneTooMany() {
        Rivers.ruleFault("join 1" + "+1".repeat(58) + "=1", 123, Rivers.PIECES);
        Rivers.ruleFault("join 1" + "+1".repeat(58) + "=  many", 125, Rivers.PIECES);
        Rivers.ruleFault("join 1" + "+1".repeat(59) + "<=1", 124, Rivers.PIECES);
        Rivers.ruleFault("join 1" + "+1".repeat(59) + "  >1", 126, Rivers.PIECES);
        Rivers.ruleFault("join 1" + "+1".repeat(59) + "+1", 125, Rivers.PIECES);
        Rivers.ruleFault("join 1=1" + " and 1=1".repeat(19) + " and 1=1", 165, Rivers.PIECES);
        Rivers.ruleFault("join 1=1" + ";join 1=1".repeat(10) + ";join 1" + "*1".repeat(25) + "<=1", 157, Rivers.PIECES);
    }

    private static void ofOnePlaceTheLeast() {
        String sixty = "join 1" + "+1".repeat(59);
        Rivers.ruleFault(sixty + "+x", 125, Rivers.SYNTAX);
        Rivers.ruleFault(sixty + "+", 125, Rivers.SYNTAX);
        Rivers.ruleFault(sixty + "+123456", 125, Rivers.NUMBER);
        Rivers.ruleFault(sixty + "+12345", 125, Rivers.PIECES);
        Rivers.ruleFault(sixty + "!1", 124, Rivers.SYNTAX);
        Rivers.ruleFault(sixty, 124, Rivers.SYNTAX);
    }

    private static void theFirstAlongTheText() {
        Rivers.ruleFault("join 123456=x", 5, Rivers.NUMBER);
        Rivers.ruleFault("join x=123456", 5, Rivers.SYNTAX);
        Rivers.ruleFault("join 1=123456;join", 7, Rivers.NUMBER);
        Rivers.ruleFault("join " + "[".repeat(11) + "123456", 15, Rivers.DEEP);
    }

    private static void byZero() {
        holds("5/0=0", true);
        holds("5%0=0", true);
        holds("0/0=0 and 0%0=0", true);
        holds("5/0+3=3 and 5%0*7+1=1", true);
        holds(LOWEST + "/0=0", true);
        holds(LOWEST + "%0=0", true);
        holds("7/one=0 and 7%one=0", true);
        holds("7/later=7 and 7%later=0", true);
    }

    private static void towardsZero() {
        holds("7/2=3 and 7%2=1", true);
        holds("0-7/2=0-3", true);
        holds(LOWEST + "/3*3-" + LOWEST + "=2", true);
        holds(LOWEST + "%3=0-2", true);
        holds(LOWEST + "%3+2=0", true);
        holds("1/2=0 and 1%2=1", true);
    }

    private static void goesRound() {
        holds(LOWEST + "<0", true);
        holds(LOWEST + "-1>0", true);
        holds(LOWEST + "+" + LOWEST + "=0", true);
        holds("65536*65536*65536*32767>0", true);
        holds("65536*65536*65536*65536=0", true);
        holds("65536*65536=0", false);
        holds("0-1<0", true);
        holds("99999*99999*99999*99999%99999=92170", true);
    }

    private static void order() {
        holds("10-2-3=5", true);
        holds("100/5/2=10", true);
        holds("7%4*2=6", true);
        holds("2+3*4=14 and 2*3+4=10 and 20-8/4=18 and 9-7%4=6", true);
    }

    private static void longAndOther() {
        for (int many = 1; many <= 7; many++) {
            String one = "a".repeat(many);
            String later = "b".repeat(8 - many);
            Due.is(one + " " + later, joins(one, later, "join long=" + many + " and other=" + (8 - many)), true);
            Due.is(one + " " + later, joins(one, later, "join not long=" + many + " or not other=" + (8 - many)), false);
        }
    }

    private static void lastAndFirst() {
        for (int letter = 1; letter <= 6; letter++) {
            char sign = (char) ('a' + letter - 1);
            Due.is("last " + sign, joins("cd" + sign, "de", "join last=" + letter), true);
            Due.is("first " + sign, joins("cd", sign + "de", "join first=" + letter), true);
            Due.is("alone " + sign, joins("" + sign, "" + sign, "join first=last and last=" + letter), true);
        }
    }

    private static void same() {
        String[][] two = {{"ab", "cd"}, {"a", "a"}, {"aab", "bba"}, {"abcd", "dcba"}, {"aaaa", "aaaa"}, {"aabb", "accd"}};
        int[] due = {0, 1, 2, 4, 1, 1};
        for (int i = 0; i < two.length; i++) {
            Due.is(two[i][0] + " " + two[i][1], joins(two[i][0], two[i][1], "join same=" + due[i]), true);
        }
    }

    private static void cell() {
        for (int cell = 0; cell < 16; cell++) {
            int before = (cell + 15) % 16;
            PaperRiver x = Rivers.with(Rivers.RING + ";scrap " + before + " a;scrap " + before + " b", "join cell=" + cell);
            Due.is("cell " + cell, x.day(), 1);
        }
    }

    private static void day() {
        PaperRiver x = Rivers.with(Rivers.RING + ";scrap 0 a;scrap 0 b", "join day=3");
        for (int day = 0; day <= 3; day++) {
            Due.is("day " + day, x.day(), day == 3 ? 1 : 0);
        }
    }

    private static void oneLaterAndMany() {
        PaperRiver x = Rivers.with("river 3" + ";scrap 0 a".repeat(10), "join one=10 and later=11 and many=12");
        x.drop(0, 2);
        x.drop(0, 3);
        Due.is("the last two of 12", x.day(), 1);
        Due.is("the one", x.scrap(10, 1), 23);
        Due.is("the later one", x.scrap(11, 4), 10);
        x = Rivers.with("river 3;scrap 0 a;scrap 1 f;scrap 0 b;scrap 0 c", "join many>2");
        Due.is("then there are two", x.day(), 1);
        Due.is("the other two are no more", x.cell(1, 5), 9);
        x = Rivers.with("river 3;scrap 0 a;scrap 0 b", "join many=2 and one=0 and later=1");
        Due.is("the least", x.day(), 1);
    }

    private static void waitOfTheOne() {
        String text = "river 4;flow 3 1;eddy 1 9;flow 2 0";
        PaperRiver x = Rivers.with(text + ";scrap 0 a;scrap 2 b", "join wait=8");
        Due.is("day 0", x.day(), 0);
        Due.is("the one came first", x.day(), 1);
        x = Rivers.with(text + ";scrap 2 a;scrap 0 b", "join wait=9");
        Due.is("day 0", x.day(), 0);
        Due.is("the one came last", x.day(), 1);
        x = Rivers.with(text + ";scrap 2 a;scrap 2 b", "join wait=0");
        Due.is("no eddy", x.day(), 1);
        x = Rivers.with(text + ";scrap 0 a;scrap 0 b", "join wait=0");
        Rivers.days(x, 9);
        Due.is("on the last of its days", x.day(), 1);
        Due.is("it is there still", x.scrap(0, 0), 1);
    }

    private static PaperRiver withSixRules() {
        PaperRiver x = Rivers.rich();
        x.end(0);
        while (x.count(5) < 6) {
            Rivers.law(x, "join 1=" + x.count(5));
        }
        Texts.feed(x, "join 1=1");
        return x;
    }

    private static void sixRules() {
        PaperRiver x = new PaperRiver();
        for (int rule = 0; rule < 6; rule++) {
            Due.is("its number", Rivers.law(x, "join day=" + rule), rule);
            Due.is("the tape is empty then", x.count(12), 0);
            Due.is("how many", x.count(5), rule + 1);
        }
        Twins.refused("a seventh", RuleBoundsTest::withSixRules, PaperRiver::rule, -1);
        Twins.refused("a faulty seventh", () -> {
            PaperRiver y = withSixRules();
            y.end(3);
            return y;
        }, PaperRiver::rule, -1);
        Due.is("the sixth is one", withSixRules().force(5), 0);
    }

    private static void eachForItself() {
        PaperRiver x = Rivers.with("river 3;scrap 0 a;scrap 0 b;scrap 0 c");
        String sixty = "=1" + "*1".repeat(57);
        Due.is("60 of the first", Rivers.law(x, "join later" + sixty), 0);
        Due.is("a fault", Rivers.law(x, "join [1=1] and long"), Rivers.fault(19, Rivers.SYNTAX));
        Due.is("60 of the second", Rivers.law(x, "join one" + sixty), 1);
        Due.is("none holds in the third", Rivers.law(x, "join 1=2"), 2);
        Due.is("all hold in the fourth", Rivers.law(x, "join 1=1;join 1=2"), 3);
        int[] due = {1, 1, 0, 2};
        int[] into = {0, 1, -1, 0};
        for (int rule = 0; rule < 4; rule++) {
            x.force(rule);
            Due.is("joined by " + rule, x.day(), due[rule]);
            Due.is("to whom by " + rule, rule == 1 ? x.scrap(2, 4) : x.scrap(1, 4), into[rule]);
            x.undo();
        }
    }

    private static void aFault() {
        for (String text : new String[] {"", "join", "join 1=1;", "river 2", "join 1=1" + ";join 1=1".repeat(12)}) {
            Twins.alike("rule() of '" + text + "'", Rivers::rich, x -> {
                x.end(0);
                Due.is("a fault", Rivers.law(x, text) <= -3, true);
            }, x -> x.end(0));
        }
        PaperRiver x = new PaperRiver();
        Rivers.law(x, "join 1");
        Due.is("the tape is empty then", x.count(12), 0);
        Due.is("the next one's number", Rivers.law(x, "join 1=1"), 0);
    }

    private static void force() {
        PaperRiver x = withSixRules();
        Due.is("which was", x.force(5), 0);
        Due.is("which was", x.force(-1), 5);
        Due.is("which was", x.force(-1), -1);
        Due.is("which was", x.force(0), -1);
        Due.is("in force", x.count(6), 0);
        Twins.refused("force(6)", RuleBoundsTest::withSixRules, y -> y.force(6), -2);
        Twins.refused("force(-2)", RuleBoundsTest::withSixRules, y -> y.force(-2), -2);
        Twins.refused("force(2)", Rivers::rich, y -> y.force(2), -2);
        Twins.refused("force(lowest)", Rivers::rich, y -> y.force(Integer.MIN_VALUE), -2);
        Twins.refused("force(highest)", Rivers::rich, y -> y.force(Integer.MAX_VALUE), -2);
        Twins.refused("force(0)", PaperRiver::new, y -> y.force(0), -2);
        Due.is("none of none", new PaperRiver().force(-1), -1);
    }

    private static void byTheRule() {
        Due.is("by the rule, not by the edges", joins("a", "a", "join 1=2"), false);
        Due.is("by the rule, not by the edges", joins("a", "b", "join 1=1"), true);
        PaperRiver x = Rivers.with("river 3;scrap 0 a;scrap 0 a", "join 1=2");
        x.force(-1);
        Due.is("without a rule by the edges", x.day(), 1);
    }

    public static void main(String[] args) {
        Due.sentence("RULES: texts likewise (at most 400 bytes)", RuleBoundsTest::bytesOfARule);
        Due.sentence("12 CLAUSES at most", RuleBoundsTest::clausesOfARule);
        Due.sentence("4 one CLAUSE too many (at its first byte)", RuleBoundsTest::aClauseTooMany);
        Due.sentence("NUMBER (1 to 5 digits, as far as digits go on); 1 a NUMBER of more digits", RuleBoundsTest::numbers);
        Due.sentence("WORDS (small letters, as far as these go on)", RuleBoundsTest::words);
        Due.sentence("0 a WORD that can't stand there", RuleBoundsTest::wordsThatCantStandThere);
        Due.sentence("0 a byte that can't stand there", RuleBoundsTest::bytesThatCantStandThere);
        Due.sentence("0 the end (behind the last byte)", RuleBoundsTest::theEnd);
        Due.sentence("SIGN one of < <= = >= >", RuleBoundsTest::signs);
        Due.sentence("TEST: PART { or PART }. PART: FACT { and FACT }", RuleBoundsTest::testsPartsFacts);
        Due.sentence("Blanks (32) stand between as one likes", RuleBoundsTest::blanksBetween);
        Due.sentence("[ and not lie within one another 10 deep at most", RuleBoundsTest::tenDeep);
        Due.sentence("2 too deep (at the sign that opens, or the word not)", RuleBoundsTest::tooDeep);
        Due.sentence("at most 60 VALUES (of SUMS) and FACTS made of a SIGN, together", RuleBoundsTest::sixtyTogether);
        Due.sentence("3 one VALUE or FACT too many (at its first byte; of a FACT at its SIGN)", RuleBoundsTest::oneTooMany);
        Due.sentence("Of one place the least", RuleBoundsTest::ofOnePlaceTheLeast);
        Due.sentence("FAULTS, the first along the text", RuleBoundsTest::theFirstAlongTheText);
        Due.sentence("both 0 by 0", RuleBoundsTest::byZero);
        Due.sentence("/ is towards 0, % its rest", RuleBoundsTest::towardsZero);
        Due.sentence("all goes round in 64 bits", RuleBoundsTest::goesRound);
        Due.sentence("SUM: TERM { (+ or -) TERM }. TERM: VALUE { (* or / or %) VALUE }", RuleBoundsTest::order);
        Due.sentence("long, other (LETTERS of the one, of the later one)", RuleBoundsTest::longAndOther);
        Due.sentence("last (a is 1 .. f is 6), first", RuleBoundsTest::lastAndFirst);
        Due.sentence("same (LETTERS that both have, each once)", RuleBoundsTest::same);
        Due.sentence("cell", RuleBoundsTest::cell);
        Due.sentence("day", RuleBoundsTest::day);
        Due.sentence("one, later (their numbers), many (SCRAPS in that cell then)", RuleBoundsTest::oneLaterAndMany);
        Due.sentence("wait (DAYS the one stays there still)", RuleBoundsTest::waitOfTheOne);
        Due.sentence("RULES 0 to 5; NONE, and nothing happens: there are 6", RuleBoundsTest::sixRules);
        Due.sentence("a RULE: its number; each for itself", RuleBoundsTest::eachForItself);
        Due.sentence("rule: -2 - its FAULT", RuleBoundsTest::aFault);
        Due.sentence("force: which was; -2, and nothing happens, if there is none such", RuleBoundsTest::force);
        Due.sentence("by the RULE IN FORCE, if one of its TESTS holds; without a RULE, if the last LETTER of the one is the "
            + "first one of the later one", RuleBoundsTest::byTheRule);
        Due.end();
    }
}
