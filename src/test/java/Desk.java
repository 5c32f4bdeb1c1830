/** Drawers laid out for a test, and texts told to them. */
final class Desk {
    static final int NONE = -1, BAD = -2, STATE = -3, FULL = -4;
    static final int NOTHING = -11, OUTSIDE = -12, OTHER_SORT = -13, SIZE_BELOW_0 = -14;
    static final int MIN = Integer.MIN_VALUE, MAX = Integer.MAX_VALUE;
    static final int LETTER = 0, DRAFT = 1, COPY = 2, CARD = 3, LOST = 4, CIRCULAR = 5;

    private Desk() { }

    /** PERSONS of the NAMES 1, 2, .. at PLACE 0, and LETTERS from the first to the last of them, at PLACE 0. */
    static LetterDrawer with(int persons, int... kinds) {
        LetterDrawer x = new LetterDrawer();
        for (int i = 0; i < persons; i++) {
            x.person(1 + i, 0);
        }
        for (int kind : kinds) {
            x.letter(kind, 0, persons - 1, 0);
        }
        return x;
    }

    /** One PERSON, and LETTERS of the KIND 0. */
    static LetterDrawer letters(int n) {
        return with(1, new int[n]);
    }

    static void feed(LetterDrawer x, String text) {
        for (int at = 0; at < text.length(); at += 8) {
            int n = Math.min(8, text.length() - at);
            long bytes = 0;
            for (int i = n - 1; i >= 0; i--) {
                bytes = bytes << 8 | text.charAt(at + i);
            }
            x.feed(n, bytes);
        }
    }

    static int write(LetterDrawer x, int letter, String text) {
        feed(x, text);
        return x.text(letter);
    }

    static String print(LetterDrawer x, int letter, int day, int way) {
        StringBuilder out = new StringBuilder();
        int size = x.print(letter, day, way);
        for (int i = 0; i < size; i++) {
            out.append((char) x.printed(letter, day, way, i));
        }
        return out.toString();
    }
}
