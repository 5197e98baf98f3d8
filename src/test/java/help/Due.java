/** What the tests share: a count of wrong answers, and deeds fed as text. */
final class Due {
    static final int NONE = -1;
    static final int BAD = -2;
    static final int OTHER = -3;
    static final int NOTHING = -4;
    static final int STATE = -5;
    static final int FULL = -6;
    /** What DEEDS say of each WAY. */
    static final String[] WAYS = {"apart", "touch", "over", "edge", "inside", "round", "holds", "same"};

    private static int wrong = 0;
    private static int asked = 0;

    private Due() {
    }

    /** Says which promise is broken, if an answer isn't the one that is due. */
    static void is(int promise, String call, long got, long want) {
        asked++;
        if (got != want) {
            wrong++;
            System.out.println("promise " + promise + ": " + call + " answered " + got + ", due is " + want);
        }
    }

    /** Puts a text on the tape, four bytes by a call: an object is used for 512 calls at most. */
    static void feed(DeedCourt x, String text) {
        for (int i = 0; i < text.length(); i += 4) {
            int n = Math.min(4, text.length() - i);
            int v = 0;
            for (int k = 0; k < n; k++) {
                v = v << 8 | text.charAt(i + k) & 255;
            }
            x.feed(v, n);
        }
    }

    /** What deed() answers to a text. */
    static int deed(DeedCourt x, String text) {
        feed(x, text);
        return x.deed();
    }

    /** A new object with some fields of kind FIELD, from the year 0 on, and some deeds. */
    static DeedCourt land(int fields, String... deeds) {
        DeedCourt x = new DeedCourt();
        for (int f = 0; f < fields; f++) {
            x.field(0, 0);
        }
        for (int d = 0; d < deeds.length; d++) {
            is(14, "deed() of \"" + deeds[d] + "\"", deed(x, deeds[d]), d);
        }
        return x;
    }

    /** The same, with the deeds in one text, parted by commas. */
    static DeedCourt landBy(int fields, String deeds) {
        return land(fields, deeds.split(", "));
    }

    /** Gives a field the ground that is drawn by rows, from the north: '#' is a cell of it. Uses shelf 7. */
    static void draw(DeedCourt x, int field, String... rows) {
        x.row(7, 4, 64);
        int count = 0;
        for (int r = 0; r < rows.length; r++) {
            for (int c = 0; c < rows[r].length(); c++) {
                if (rows[r].charAt(c) == '#') {
                    x.set(7, r * 8 + c, 1);
                    count++;
                }
            }
        }
        is(46, "ground(" + field + ", 7)", x.ground(field, 7), count);
    }

    /** Ends the test: with exit code 1 if an answer was wrong. */
    static void end(String name) {
        System.out.println(name + ": " + asked + " answers, " + wrong + " wrong");
        if (wrong != 0) {
            System.exit(1);
        }
    }
}
