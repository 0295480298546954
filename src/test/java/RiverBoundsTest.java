/** The bounds of a RIVER's text and each of its FAULTS, a sentence a test. */
public final class RiverBoundsTest {
    private static final String[] OTHERS = {"flow 0 1", "mouth 0", "eddy 0 1", "mill 0 a", "dam 0", "net 0 1", "scrap 0 a"};

    private RiverBoundsTest() {
    }

    private static String blanks(int n) {
        return " ".repeat(n);
    }

    /** As many clauses of a kind, each of the next cell. */
    private static String clauses(String word, int n, String rest) {
        StringBuilder s = new StringBuilder();
        for (int cell = 0; cell < n; cell++) {
            s.append(";").append(word).append(" ").append(cell).append(rest);
        }
        return s.toString();
    }

    private static void bytesOfAText() {
        String text = "river 2;scrap 1 abcdefab";
        PaperRiver x = new PaperRiver();
        Due.is("river() of 400 bytes", Rivers.tell(x, blanks(400 - text.length()) + text), 1);
        Due.is("the last of its bytes is read", x.scrap(0, 1), 12345612);
        Texts.feed(x, blanks(393) + "river 2");
        Due.is("a byte more does not come", x.feed(0x3b3b3b3b, 0, 0, 0, 0), -1);
        Due.is("river() of 400 bytes", x.river(), 0);
        Rivers.riverFault(blanks(392) + "river 2;", 400, Rivers.SYNTAX);
        Rivers.riverFault("river 2;scrap 0 a" + blanks(382) + "b", 399, Rivers.SYNTAX);
    }

    private static void clausesOfARiver() {
        PaperRiver x = new PaperRiver();
        Due.is("40 clauses", Rivers.tell(x, "river 3" + ";mouth 1".repeat(38) + ";eddy 1 9"), 0);
        Due.is("the 40th is heeded", x.cell(1, 1), 9);
        Due.is("one clause", Rivers.tell(x, "river 2"), 0);
    }

    private static void aClauseTooMany() {
        String forty = "river 3" + ";mouth 1".repeat(39);
        Rivers.riverFault(forty + ";mouth 1", 320, Rivers.CLAUSE);
        Rivers.riverFault(forty + ";   mouth 1", 323, Rivers.CLAUSE);
        Rivers.riverFault(forty + ";eddy", 320, Rivers.CLAUSE);
        Rivers.riverFault(forty + ";river 3", 320, Rivers.CLAUSE);
        Rivers.riverFault(forty + ";mouths 1", 320, Rivers.SYNTAX);
        Rivers.riverFault(forty + ";", 320, Rivers.SYNTAX);
    }

    private static void cells() {
        for (int cells = 0; cells <= 20; cells++) {
            PaperRiver x = new PaperRiver();
            boolean taken = cells >= 2 && cells <= 16;
            Due.is("river " + cells, Rivers.tell(x, "river " + cells), taken ? 0 : Rivers.fault(6, Rivers.NUMBER));
            Due.is("cells of river " + cells, x.count(0), taken ? cells : 0);
        }
        Rivers.riverFault("river 99999", 6, Rivers.NUMBER);
    }

    private static void onceTheFirst() {
        Rivers.riverFault("river 2;river 2", 8, Rivers.CLAUSE);
        Rivers.riverFault("river 2; dam 0;  river 3", 17, Rivers.CLAUSE);
        Rivers.riverFault("river 2;river", 8, Rivers.CLAUSE);
        for (String clause : OTHERS) {
            Rivers.riverFault(clause, 0, Rivers.CLAUSE);
            Rivers.riverFault("  " + clause + ";river 2", 2, Rivers.CLAUSE);
        }
        Rivers.riverFault("dam", 0, Rivers.CLAUSE);
    }

    private static void aCell() {
        for (String clause : OTHERS) {
            String word = clause.substring(0, clause.indexOf(' '));
            String rest = clause.substring(clause.indexOf(' ') + 2);
            int place = 8 + word.length() + 1;
            int taken = word.equals("scrap") ? 1 : 0;
            Rivers.riverIs("river 4;" + word + " 3" + rest, taken);
            Rivers.riverIs("river 4;" + word + " 0" + rest.replace('1', '2'), taken);
            Rivers.riverFault("river 4;" + word + " 4" + rest, place, Rivers.NUMBER);
            Rivers.riverFault("river 4;" + word + " 99999" + rest, place, Rivers.NUMBER);
            Rivers.riverFault("river 4;" + word + " -1" + rest, place, Rivers.SYNTAX);
            Rivers.riverIs("river 16;" + word + " 15" + rest, taken);
            Rivers.riverFault("river 16;" + word + " 16" + rest, place + 1, Rivers.NUMBER);
        }
    }

    private static void anotherCell() {
        for (int cell = 0; cell < 4; cell++) {
            PaperRiver x = new PaperRiver();
            for (int into = 0; into < 4; into++) {
                Due.is("flow " + cell + " " + into, Rivers.tell(x, "river 4;flow " + cell + " " + into),
                    into == cell ? Rivers.fault(15, Rivers.NUMBER) : 0);
                Due.is("into", into == cell || x.cell(cell, 0) == into, true);
            }
        }
        Rivers.riverFault("river 4;flow 0 4", 15, Rivers.NUMBER);
        Rivers.riverFault("river 4;flow 4 4", 13, Rivers.NUMBER);
        Rivers.riverFault("river 4;flow 2  00002", 16, Rivers.NUMBER);
    }

    private static void flowsTheLastTold() {
        PaperRiver x = Rivers.with("river 5;flow 0 2;flow 0 3;flow 1 4;mouth 1;mouth 2;flow 2 0");
        Due.is("of two flows", x.cell(0, 0), 3);
        Due.is("of flow and mouth", x.cell(1, 0), -1);
        Due.is("of mouth and flow", x.cell(2, 0), 0);
    }

    /** A clause tells its own of a cell and leaves the rest as it was told. */
    private static void oneTheOthersStay() {
        String[] clauses = {"flow 1 3", "eddy 1 5", "mill 1 c", "dam 1", "net 1 7", "scrap 1 a"};
        int[] want = {3, 5, 3, 1, 7, 1};
        for (int first = 0; first < clauses.length; first++) {
            for (int last = 0; last < clauses.length; last++) {
                if (first != last) {
                    PaperRiver x = Rivers.with("river 4;" + clauses[first] + ";" + clauses[last]);
                    for (int what = 0; what <= 5; what++) {
                        int untold = what == 0 ? 2 : 0;
                        Due.is(clauses[first] + ";" + clauses[last] + ": " + what, x.cell(1, what),
                            what == first || what == last ? want[what] : untold);
                    }
                }
            }
        }
        PaperRiver x = Rivers.with("river 4;eddy 1 5;mill 1 c;net 1 7;mouth 1");
        Due.is("mouth", x.cell(1, 0), -1);
        Due.is("the rest stays", x.cell(1, 1) * 100 + x.cell(1, 2) * 10 + x.cell(1, 4), 537);
    }

    private static void eddies() {
        for (int days = 0; days <= 12; days++) {
            PaperRiver x = new PaperRiver();
            boolean taken = days >= 1 && days <= 9;
            Due.is("eddy 1 " + days, Rivers.tell(x, "river 3;eddy 1 " + days), taken ? 0 : Rivers.fault(15, Rivers.NUMBER));
            Due.is("its days", x.cell(1, 1), taken ? days : -2);
        }
        Due.is("the last told", Rivers.with("river 3;eddy 1 9;eddy 1 4;eddy 2 1").cell(1, 1), 4);
        Due.is("untold", Rivers.with("river 3;eddy 1 9").cell(0, 1), 0);
    }

    private static void aCellThatHasNone() {
        Rivers.riverFault("river 3;mill 1 a;mill 1 b", 22, Rivers.NUMBER);
        Rivers.riverFault("river 3;mill 1 a;mill 1 g", 22, Rivers.NUMBER);
        Rivers.riverFault("river 3;dam 1;dam 1", 18, Rivers.NUMBER);
        Rivers.riverFault("river 3;net 1 1;net 1 1", 20, Rivers.NUMBER);
        Rivers.riverFault("river 3;net 1 1;net 1 9", 20, Rivers.NUMBER);
        PaperRiver x = Rivers.with("river 3;mill 1 a;dam 1;net 1 8;mill 2 a;dam 2;net 2 8");
        Due.is("a cell may have one of each", x.count(1) + x.count(2) + x.count(3), 6);
    }

    private static void damsAreOpen() {
        PaperRiver x = Rivers.with("river 2;dam 1");
        Due.is("it is open", x.cell(1, 3), 1);
        Due.is("none", x.cell(0, 3), 0);
        x.dam(1, false);
        Rivers.tell(x, "river 2;dam 1");
        Due.is("it is open in the next river, too", x.cell(1, 3), 1);
    }

    private static void meshes() {
        for (int mesh = 0; mesh <= 12; mesh++) {
            PaperRiver x = new PaperRiver();
            boolean taken = mesh >= 1 && mesh <= 8;
            Due.is("net 1 " + mesh, Rivers.tell(x, "river 3;net 1 " + mesh), taken ? 0 : Rivers.fault(14, Rivers.NUMBER));
            Due.is("its mesh", x.cell(1, 4), taken ? mesh : -2);
        }
    }

    private static void lettersOfAScrap() {
        String eight = "fedcbaab";
        int[] texts = {6, 65, 654, 6543, 65432, 654321, 6543211, 65432112};
        for (int many = 1; many <= 8; many++) {
            PaperRiver x = Rivers.with("river 2;scrap 0 " + eight.substring(0, many));
            Due.is("its text", x.scrap(0, 1), texts[many - 1]);
        }
        Rivers.riverFault("river 2;scrap 0", 15, Rivers.SYNTAX);
        Rivers.riverFault("river 2;scrap 0;dam 1", 15, Rivers.SYNTAX);
        Rivers.riverFault("river 2;scrap 0 1", 16, Rivers.SYNTAX);
        Rivers.riverFault("river 2;scrap 0 " + eight + "a", 24, Rivers.SYNTAX);
        Rivers.riverFault("river 2;scrap 0 " + eight + "abcg", 24, Rivers.SYNTAX);
    }

    private static void whicheverComesFirst() {
        for (int place = 0; place < 8; place++) {
            Rivers.riverFault("river 2;scrap 0 " + "a".repeat(place) + "g" + "a".repeat(12), 16 + place, Rivers.SYNTAX);
        }
        Rivers.riverFault("river 2;scrap 0 aaaaaaaag", 24, Rivers.SYNTAX);
        Rivers.riverFault("river 2;scrap 0 aaaaaaaaag", 24, Rivers.SYNTAX);
        Rivers.riverFault("river 2;mill 0 ga", 15, Rivers.SYNTAX);
        Rivers.riverFault("river 2;mill 0 ag", 16, Rivers.SYNTAX);
    }

    private static void aLetter() {
        for (char letter = 'a'; letter <= 'z'; letter++) {
            PaperRiver x = new PaperRiver();
            int answer = Rivers.tell(x, "river 2;mill 0 " + letter);
            Due.is("mill 0 " + letter, answer, letter <= 'f' ? 0 : Rivers.fault(15, Rivers.SYNTAX));
            Due.is("it prints", x.cell(0, 2), letter <= 'f' ? letter - 'a' + 1 : -2);
        }
        Rivers.riverFault("river 2;mill 0 aa", 16, Rivers.SYNTAX);
        Rivers.riverFault("river 2;mill 0 a a", 17, Rivers.SYNTAX);
        Rivers.riverFault("river 2;mill 0", 14, Rivers.SYNTAX);
        Rivers.riverFault("river 2;mill 0;dam 0", 14, Rivers.SYNTAX);
    }

    private static void untoldCells() {
        for (int cells = 2; cells <= 16; cells++) {
            PaperRiver x = Rivers.with("river " + cells);
            for (int cell = 0; cell < cells; cell++) {
                Due.is("of " + cells + " cell " + cell, x.cell(cell, 0), cell < cells - 1 ? cell + 1 : -1);
            }
        }
    }

    private static void mills() {
        Due.is("6", Rivers.with("river 9" + clauses("mill", 6, " a")).count(1), 6);
        Rivers.riverFault("river 9" + clauses("mill", 7, " a"), 62, Rivers.CLAUSE);
        Rivers.riverFault("river 9" + clauses("mill", 6, " a") + "; mill 0 a", 63, Rivers.CLAUSE);
        Due.is("0", Rivers.with("river 9").count(1), 0);
        PaperRiver x = Rivers.with("river 3;mill 2 b;mill 1 a;scrap 1 c;scrap 0 d;scrap 0 e");
        x.day();
        Due.is("mill 0 is that of cell 2: 1 of 3", x.share(0, 0), 1);
        Due.is("mill 1 is that of cell 1: 2 of 3", x.share(1, 0), 2);
    }

    private static void dams() {
        Due.is("4", Rivers.with("river 9" + clauses("dam", 4, "")).count(2), 4);
        Rivers.riverFault("river 9" + clauses("dam", 5, ""), 32, Rivers.CLAUSE);
        Rivers.riverFault("river 9" + clauses("dam", 4, "") + ";dam 0", 32, Rivers.CLAUSE);
        Due.is("0", Rivers.with("river 9").count(2), 0);
        PaperRiver x = Rivers.with("river 4;dam 3;dam 1;mouth 1;scrap 1 a");
        Due.is("dam 1 is that of cell 1", x.gates(1, 0), 2);
        x = Rivers.with("river 4;dam 3;dam 1;mouth 1;scrap 3 a");
        Due.is("dam 0 is that of cell 3", x.gates(1, 0), 1);
    }

    private static void nets() {
        Due.is("5", Rivers.with("river 9" + clauses("net", 5, " 1")).count(3), 5);
        Rivers.riverFault("river 9" + clauses("net", 6, " 1"), 48, Rivers.CLAUSE);
        Rivers.riverFault("river 9" + clauses("net", 5, " 1") + ";net 0 9", 48, Rivers.CLAUSE);
        Due.is("0", Rivers.with("river 9").count(3), 0);
    }

    private static void scraps() {
        PaperRiver x = Rivers.with("river 9" + ";scrap 1 a".repeat(9) + ";scrap 2 f");
        Due.is("10", x.count(4), 10);
        Due.is("the last told has the number 9", x.scrap(9, 1), 6);
        Due.is("and none has 10", x.scrap(10, 1), -2);
        Rivers.riverFault("river 9" + ";scrap 1 a".repeat(11), 108, Rivers.CLAUSE);
        Rivers.riverFault("river 9" + ";scrap 1 a".repeat(10) + ";scrap 9 g", 108, Rivers.CLAUSE);
        Rivers.riverIs("river 9", 0);
        for (int many = 0; many <= 10; many++) {
            Rivers.riverIs("river 9" + ";scrap 1 a".repeat(many), many);
        }
    }

    private static void itIsDayZero() {
        PaperRiver x = Rivers.with("river 3;scrap 2 a");
        Due.is("day", x.count(7), 0);
        Rivers.days(x, 5);
        Rivers.tell(x, "river 3;scrap 2 a");
        Due.is("day of the next river", x.count(7), 0);
        x.day();
        Due.is("it left on day", x.scrap(0, 5), 0);
    }

    private static void numbers() {
        Rivers.riverIs("river 00016", 0);
        Rivers.riverFault("river 000016", 6, Rivers.NUMBER);
        Rivers.riverFault("river 000002", 6, Rivers.NUMBER);
        Rivers.riverFault("river 4294967298", 6, Rivers.NUMBER);
        Rivers.riverFault("river 18446744073709551618", 6, Rivers.NUMBER);
        Rivers.riverFault("river 000002x", 6, Rivers.NUMBER);
        Rivers.riverIs("river 00002;flow 00000 00001;eddy 00001 00009;net 00001 00008", 0);
        Rivers.riverFault("river 2;flow 000000 1", 13, Rivers.NUMBER);
        Rivers.riverFault("river 2;flow 0 000001", 15, Rivers.NUMBER);
        Rivers.riverFault("river 2;eddy 0 000001", 15, Rivers.NUMBER);
        Rivers.riverFault("river 2;net 0 000001", 14, Rivers.NUMBER);
        Rivers.riverFault("river 1 6", 6, Rivers.NUMBER);
        Rivers.riverFault("river 2 6", 8, Rivers.SYNTAX);
    }

    private static void theEnd() {
        String[] cut = {"", "river", "river 2;", "river 2;flow", "river 2;flow 0", "river 2;mouth", "river 2;eddy",
            "river 2;eddy 0", "river 2;mill", "river 2;mill 0", "river 2;dam", "river 2;net", "river 2;net 0",
            "river 2;scrap", "river 2;scrap 0"};
        for (String text : cut) {
            Rivers.riverFault(text, text.length(), Rivers.SYNTAX);
            Rivers.riverFault(text + "   ", text.length() + 3, Rivers.SYNTAX);
        }
    }

    /** Each byte behind what is told already, of all 256. */
    private static void bytesThatCantStandThere() {
        for (int b = 0; b < 256; b++) {
            char sign = (char) b;
            boolean digit = sign >= '0' && sign <= '9';
            boolean small = sign >= 'a' && sign <= 'z';
            int behindNumber = digit ? Rivers.fault(6, Rivers.NUMBER) : Rivers.fault(sign == ';' ? 8 : 7, Rivers.SYNTAX);
            Rivers.riverIs("river 2" + sign, sign == ' ' ? 0 : behindNumber);
            boolean letter = sign >= 'a' && sign <= 'f';
            int behindLetter = Rivers.fault(sign == ';' ? 18 : 17, Rivers.SYNTAX);
            Rivers.riverIs("river 2;scrap 0 a" + sign, letter || sign == ' ' ? 1 : behindLetter);
            int asNumber = digit ? Rivers.fault(6, Rivers.NUMBER) : Rivers.fault(sign == ' ' ? 7 : 6, Rivers.SYNTAX);
            Rivers.riverIs("river " + sign, digit && sign >= '2' ? 0 : asNumber);
            int behindWord = small ? Rivers.fault(0, Rivers.SYNTAX) : Rivers.fault(5, Rivers.SYNTAX);
            Rivers.riverIs("river" + sign + "2", digit ? sign == '1' ? 0 : twoDigits(sign) : sign == ' ' ? 0 : behindWord);
            Rivers.riverFault(sign + ";", sign == ' ' ? 1 : 0, Rivers.SYNTAX);
        }
    }

    /** What 'river02' and its like answer. */
    private static int twoDigits(char first) {
        return first == '0' ? 0 : Rivers.fault(5, Rivers.NUMBER);
    }

    private static void wordsThatCantStandThere() {
        for (String word : new String[] {"rive", "rivers", "join", "River", "flows", "and", "a"}) {
            Rivers.riverFault(word + " 2", 0, Rivers.SYNTAX);
            Rivers.riverFault("river 2; " + word + " 0 1", 9, Rivers.SYNTAX);
        }
        Rivers.riverFault("riverx", 0, Rivers.SYNTAX);
        Rivers.riverFault("river 2;damn 0", 8, Rivers.SYNTAX);
        Rivers.riverFault("river 2;dam 0 dam 1", 14, Rivers.SYNTAX);
        Rivers.riverFault("river 2;;dam 0", 8, Rivers.SYNTAX);
    }

    private static void blanksBetween() {
        PaperRiver x = new PaperRiver();
        Due.is("none", Rivers.tell(x, "river4;flow0 3;mouth2;eddy1 9;mill1c;dam1;net1 8;scrap1fa;scrap1b"), 2);
        Due.is("letters", x.scrap(0, 1), 61);
        Due.is("many", Rivers.tell(x, "  river   4  ;  flow   0   3  ;  scrap  1   fa   "), 1);
        Due.is("flow", x.cell(0, 0), 3);
        Rivers.riverFault("river 2;scrap 0 a b", 18, Rivers.SYNTAX);
        Rivers.riverFault("ri ver 2", 0, Rivers.SYNTAX);
        Rivers.riverFault("river\t2", 5, Rivers.SYNTAX);
        Rivers.riverFault("river 2;flow 01", 15, Rivers.SYNTAX);
    }

    private static void theFirstAlongTheText() {
        Rivers.riverFault("river 2;eddy 9 0;flow 0 0", 13, Rivers.NUMBER);
        Rivers.riverFault("river 2;eddy 1 0;flow 0 0", 15, Rivers.NUMBER);
        Rivers.riverFault("river 1;;", 6, Rivers.NUMBER);
        Rivers.riverFault("river 2;dam 0;river 2;dam 0", 14, Rivers.CLAUSE);
        Rivers.riverFault("river 2;scrap 2 gggg", 14, Rivers.NUMBER);
    }

    private static void ofOnePlaceTheLeast() {
        String forty = "river 9" + clauses("mill", 6, " a") + ";mouth 1".repeat(33);
        Rivers.riverFault(forty + ";mill 0 a", 326, Rivers.CLAUSE);
        Rivers.riverFault(forty + ";millx 0 a", 326, Rivers.SYNTAX);
        Rivers.riverFault("rivr 2", 0, Rivers.SYNTAX);
        Rivers.riverFault("river 2;flow 1 000001", 15, Rivers.NUMBER);
    }

    private static void inPlaceOfTheOneThereWas() {
        PaperRiver x = Rivers.rich();
        Due.is("river()", x.river(), 1);
        int[] want = {3, 0, 0, 0, 1, 2, 0, 0, 1, 0, 0, 77, 0};
        for (int what = 0; what < want.length; what++) {
            Due.is("count(" + what + ")", x.count(what), want[what]);
        }
        for (int cell = 0; cell < 3; cell++) {
            Due.is("flow of " + cell, x.cell(cell, 0), cell < 2 ? cell + 1 : -1);
            for (int what = 1; what <= 4; what++) {
                Due.is("cell(" + cell + ", " + what + ")", x.cell(cell, what), 0);
            }
        }
        Due.is("none to be undone", x.undo(), -2);
        Due.is("images stay", x.back(1), 1);
        Due.is("of the river there was", x.count(0), 6);
    }

    private static void aFaultAndAllStays() {
        String[] faulty = {"", "river 1", "river 2;river 2", "river 2;scrap 0 abcdefabc", "river 2;scrap 0 a;dam 0;dam 0"};
        for (String text : faulty) {
            Twins.alike("river() of '" + text + "'", Rivers::rich, x -> {
                x.end(0);
                Due.is("a fault", Rivers.tell(x, text) <= -3, true);
            }, x -> x.end(0));
        }
        PaperRiver x = new PaperRiver();
        Rivers.tell(x, "river 17");
        Due.is("the tape is empty then", x.count(12), 0);
        Due.is("no river still", x.day(), -1);
    }

    public static void main(String[] args) {
        Due.sentence("A RIVER is a text of at most 400 bytes", RiverBoundsTest::bytesOfAText);
        Due.sentence("CLAUSE { ; CLAUSE }, 40 at most", RiverBoundsTest::clausesOfARiver);
        Due.sentence("4 one CLAUSE too many (at its first byte)", RiverBoundsTest::aClauseTooMany);
        Due.sentence("CELLS 2 to 16", RiverBoundsTest::cells);
        Due.sentence("river: once, the first CLAUSE; 4 a second river, another CLAUSE ahead of it", RiverBoundsTest::onceTheFirst);
        Due.sentence("a cell; 1 a NUMBER not as told", RiverBoundsTest::aCell);
        Due.sentence("another cell; 1 of flow the second cell, if it is the first", RiverBoundsTest::anotherCell);
        Due.sentence("of flow and mouth of one the last told", RiverBoundsTest::flowsTheLastTold);
        Due.sentence("CLAUSES of one cell", RiverBoundsTest::oneTheOthersStay);
        Due.sentence("eddy: DAYS 1 to 9; of one the last told", RiverBoundsTest::eddies);
        Due.sentence("1 a cell that has a mill, dam, net already", RiverBoundsTest::aCellThatHasNone);
        Due.sentence("dam: it is open", RiverBoundsTest::damsAreOpen);
        Due.sentence("net: MESH 1 to 8", RiverBoundsTest::meshes);
        Due.sentence("LETTERS: 1 to 8 of a to f, as far as small letters go on", RiverBoundsTest::lettersOfAScrap);
        Due.sentence("of LETTERS the first that is none of a to f, or the ninth, of a LETTER the second, whichever comes "
            + "first", RiverBoundsTest::whicheverComesFirst);
        Due.sentence("LETTER: one", RiverBoundsTest::aLetter);
        Due.sentence("Untold cells flow into the next one, the last one into the SEA", RiverBoundsTest::untoldCells);
        Due.sentence("MILLS 0 to 5 in the order told; 4 a seventh MILL", RiverBoundsTest::mills);
        Due.sentence("DAMS 0 to 3 in the order told; 4 a fifth DAM", RiverBoundsTest::dams);
        Due.sentence("NETS 0 to 4; 4 a sixth NET", RiverBoundsTest::nets);
        Due.sentence("SCRAPS 0 to 9 in the order told; 4 an 11th SCRAP", RiverBoundsTest::scraps);
        Due.sentence("It is DAY 0", RiverBoundsTest::itIsDayZero);
        Due.sentence("NUMBER (1 to 5 digits, as far as digits go on); 1 a NUMBER of more digits", RiverBoundsTest::numbers);
        Due.sentence("0 the end (behind the last byte)", RiverBoundsTest::theEnd);
        Due.sentence("0 a byte that can't stand there", RiverBoundsTest::bytesThatCantStandThere);
        Due.sentence("0 a WORD that can't stand there", RiverBoundsTest::wordsThatCantStandThere);
        Due.sentence("Blanks (32) stand between as one likes (not within LETTERS)", RiverBoundsTest::blanksBetween);
        Due.sentence("FAULTS, the first along the text", RiverBoundsTest::theFirstAlongTheText);
        Due.sentence("Of one place the least", RiverBoundsTest::ofOnePlaceTheLeast);
        Due.sentence("in place of the one there was (nothing to be UNDONE; the RULE IN FORCE and x stay)",
            RiverBoundsTest::inPlaceOfTheOneThereWas);
        Due.sentence("-2 - its FAULT, and all stays", RiverBoundsTest::aFaultAndAllStays);
        Due.end();
    }
}
