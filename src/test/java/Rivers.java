/** Objects in the states that the tests of the bounds begin from. */
final class Rivers {
    static final int SYNTAX = 0;
    static final int NUMBER = 1;
    static final int DEEP = 2;
    static final int PIECES = 3;
    static final int CLAUSE = 4;
    /** 16 cells in a ring, each into the next: where a scrap is tells how many days passed. */
    static final String RING = "river 16;flow 15 0";

    private Rivers() {
    }

    static int tell(PaperRiver x, String text) {
        Texts.feed(x, text);
        return x.river();
    }

    static int law(PaperRiver x, String text) {
        Texts.feed(x, text);
        return x.rule();
    }

    static PaperRiver with(String text) {
        PaperRiver x = new PaperRiver();
        int answer = tell(x, text);
        if (answer < 0) {
            Due.complain("river() of '" + text + "' is " + answer);
        }
        return x;
    }

    /** A river with the rule in force. */
    static PaperRiver with(String text, String rule) {
        PaperRiver x = with(text);
        Due.is("rule() of '" + rule + "'", law(x, rule), 0);
        x.force(0);
        return x;
    }

    static int fault(int place, int kind) {
        return -2 - (1 + 8 * place + kind);
    }

    static void riverIs(String text, int answer) {
        Due.is("river() of '" + text + "'", tell(new PaperRiver(), text), answer);
    }

    static void riverFault(String text, int place, int kind) {
        riverIs(text, fault(place, kind));
    }

    static void ruleIs(String text, int answer) {
        Due.is("rule() of '" + text + "'", law(new PaperRiver(), text), answer);
    }

    static void ruleFault(String text, int place, int kind) {
        ruleIs(text, fault(place, kind));
    }

    static void days(PaperRiver x, int n) {
        for (int i = 0; i < n; i++) {
            x.day();
        }
    }

    /** Something of all: rules, one in force, x, scraps here and gone, acts of all kinds but one, images, a tape. */
    static PaperRiver rich() {
        PaperRiver x = new PaperRiver();
        law(x, "join last=first and many>1");
        law(x, "join 1=2");
        x.force(0);
        x.seed(77);
        tell(x, "river 6;flow 4 1;eddy 2 3;mill 1 c;mill 3 a;dam 2;dam 3;net 4 5;"
            + "scrap 0 ab;scrap 0 bc;scrap 2 f;scrap 5 ee");
        x.image(0);
        x.day();
        x.drop(0, 123);
        x.drop(1, 6);
        x.dam(2, false);
        x.image(1);
        x.net(0, 2);
        Texts.feed(x, "river 3;scrap 0 aa");
        return x;
    }

    /** As rich, but with no place for a scrap more; the first of them is torn. */
    static PaperRiver crowded() {
        PaperRiver x = rich();
        x.tear(0);
        while (x.count(4) < 12) {
            x.drop(2, 12);
        }
        return x;
    }
}
