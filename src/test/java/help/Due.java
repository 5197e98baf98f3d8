/** What the tests share: a count of wrong answers, and deeds fed as text. */
final class Due {
    private static int wrong = 0;
    private static int asked = 0;

    private Due() {
    }

    /** Says which promise is broken, if an answer isn't the one that is due. */
    static void is(int promise, String call, long got, long want) {
        asked++;
        if (got != want) {
            wrong++;
            System.out.println("promise " + promise + ": " + call + " answered " + got + ", due is " + want);
        }
    }

    /** Puts a text on the tape, byte by byte. */
    static void feed(DeedCourt x, String text) {
        for (int i = 0; i < text.length(); i++) {
            x.feed(text.charAt(i), 1);
        }
    }

    /** What deed() answers to a text. */
    static int deed(DeedCourt x, String text) {
        feed(x, text);
        return x.deed();
    }

    /** A new object with some fields of kind FIELD, from the year 0 on, and some deeds. */
    static DeedCourt land(int fields, String... deeds) {
        DeedCourt x = new DeedCourt();
        for (int f = 0; f < fields; f++) {
            x.field(0, 0);
        }
        for (int d = 0; d < deeds.length; d++) {
            is(14, "deed() of \"" + deeds[d] + "\"", deed(x, deeds[d]), d);
        }
        return x;
    }

    /** Gives a field the ground that is drawn by rows, from the north: '#' is a cell of it. Uses shelf 7. */
    static void draw(DeedCourt x, int field, String... rows) {
        x.row(7, 4, 64);
        int count = 0;
        for (int r = 0; r < rows.length; r++) {
            for (int c = 0; c < rows[r].length(); c++) {
                if (rows[r].charAt(c) == '#') {
                    x.set(7, r * 8 + c, 1);
                    count++;
                }
            }
        }
        is(46, "ground(" + field + ", 7)", x.ground(field, 7), count);
    }

    /** Ends the test: with exit code 1 if an answer was wrong. */
    static void end(String name) {
        System.out.println(name + ": " + asked + " answers, " + wrong + " wrong");
        if (wrong != 0) {
            System.exit(1);
        }
    }
}
