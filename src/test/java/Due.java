/** Holds answers against those that are due; a wrong one is told with the sentence of the document that asks for it. */
final class Due {
    private static int wrong = 0;
    private static int sentences = 0;
    private static String sentence = "";

    private Due() {
    }

    /** A sentence of the document, and the test that fails if it does not hold. */
    static void sentence(String words, Runnable test) {
        sentence = words;
        sentences++;
        test.run();
    }

    static void is(String what, int got, int want) {
        if (got != want) {
            complain(what + " is " + got + ", due is " + want);
        }
    }

    static void is(String what, boolean got, boolean want) {
        is(what, got ? 1 : 0, want ? 1 : 0);
    }

    static void complain(String what) {
        wrong++;
        System.out.println("'" + sentence + "': " + what);
    }

    static void end() {
        System.out.println(wrong == 0 ? sentences + " sentences hold" : wrong + " answers are not as due");
        if (wrong != 0) {
            System.exit(1);
        }
    }
}
