/** Texts as feed() takes them. */
final class Texts {
    private Texts() {
    }

    /** Twenty signs from a place on, blanks behind the end. */
    static int[] fiveInts(String text, int from) {
        int[] five = new int[5];
        for (int i = 0; i < 20; i++) {
            int sign = from + i < text.length() ? text.charAt(from + i) : 32;
            five[i / 4] = five[i / 4] << 8 | sign & 255;
        }
        return five;
    }

    static void feed(RustFamily x, String text) {
        for (int i = 0; i < text.length(); i += 20) {
            int[] n = fiveInts(text, i);
            x.feed(n[0], n[1], n[2], n[3], n[4]);
        }
    }

    static int family(RustFamily x, String text) {
        feed(x, text);
        return x.family(text.length());
    }

    static int years(RustFamily x, String text) {
        feed(x, text);
        return x.years(text.length());
    }
}
