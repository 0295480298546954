/** Feeds texts as the tape takes them: five numbers a call, of each the highest byte first. */
final class Texts {
    private Texts() {
    }

    /** The numbers for one call, with zeros where the text is at its end. */
    static int[] five(String text, int from) {
        int[] five = new int[5];
        for (int i = 0; i < 20; i++) {
            int b = from + i < text.length() ? text.charAt(from + i) & 255 : 0;
            five[i / 4] |= b << 24 - 8 * (i % 4);
        }
        return five;
    }

    static void feed(PaperRiver x, String text) {
        for (int from = 0; from < text.length(); from += 20) {
            int[] five = five(text, from);
            x.feed(five[0], five[1], five[2], five[3], five[4]);
        }
        x.end(text.length());
    }
}
