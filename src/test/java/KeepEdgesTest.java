/** The boundaries that promises 58 to 60 name: what is kept, SHELVES whose FIELDS are gone, the 512th call. */
public final class KeepEdgesTest {
    private static final int NONE = Due.NONE;
    private static final int BAD = Due.BAD;
    private static final int STATE = Due.STATE;

    private KeepEdgesTest() {
    }

    public static void main(String[] args) {
        nothingKept();
        newObjectKept();
        shelves();
        notKept();
        allIsKept();
        fullIsKept();
        searches();
        searchesGoOn();
        oldWords();
        numbersAnew();
        imageAnew();
        status();
        lastCalls();
        Due.end("KeepEdgesTest");
    }

    /** "STATE: nothing was." */
    private static void nothingKept() {
        DeedCourt x = Due.land(3, "0 over 1");
        Due.is(59, "nothing was kept", x.back(), STATE);
        Due.is(59, "nothing changes", x.status(0), 3);
        Due.is(59, "once more", x.back(), STATE);
        Due.is(58, "image", x.image(), 1);
        Due.is(59, "now it was", x.back(), 1);
        Due.is(59, "and again", x.back(), 1);
        Due.is(60, "STATE", x.status(15), 2);
    }

    /** A new object's land is kept, too: no FIELDS, no DEEDS. */
    private static void newObjectKept() {
        DeedCourt x = new DeedCourt();
        Due.is(58, "image", x.image(), 1);
        x.field(0, 0);
        x.field(0, 0);
        Due.deed(x, "0 touch 1");
        x.mean(0, 7);
        x.seed(5);
        x.draw(3);
        x.lay(0);
        x.begin(0);
        x.show(0, 0);
        x.row(1, 0, 1);
        Due.is(59, "back", x.back(), 1);
        Due.is(60, "no FIELDS", x.status(0), 0);
        Due.is(60, "no DEEDS", x.status(1), 0);
        Due.is(60, "SEED", x.status(3), 1);
        Due.is(60, "the ROW is left", x.status(4), 1);
        Due.is(18, "the OLD WORD means nothing", x.mean(0, NONE), NONE);
        Due.is(44, "nothing is laid", x.mate(0), BAD);
        Due.is(57, "no SEARCH", x.search(0), STATE);
        Due.is(6, "no FIELD on the SHELF", x.holds(0), NONE);
        for (int i = 0; i < 64; i++) {
            Due.is(53, "nothing is FOUND", x.found(i / 8, i % 8), 0);
        }
        Due.is(9, "the first FIELD", x.field(2, 2), 0);
        Due.is(6, "it isn't shown", x.holds(0), NONE);
    }

    /** "(SHELVES with FIELDS that aren't there any more (by their numbers) hold NOTHING)". */
    private static void shelves() {
        DeedCourt x = Due.land(3);
        x.image();
        for (int f = 3; f < 8; f++) {
            x.field(0, 0);
        }
        for (int s = 0; s < 8; s++) {
            x.show(s, s);
        }
        x.back();
        for (int s = 0; s < 8; s++) {
            Due.is(59, "a SHELF with FIELD " + s + " of 3", x.holds(s), s < 3 ? 10 + s : NONE);
        }
        Due.is(60, "three hold something", x.status(4), 3);
        Due.is(59, "a ROW stays", x.row(7, 3, 1) + x.set(7, 0, Long.MIN_VALUE) + x.back(), 3);
        Due.is(5, "as it was", x.element(7, 0), Long.MIN_VALUE);
        // The number counts: another FIELD of the same number is shown.
        DeedCourt y = Due.land(1);
        y.image();
        y.part(0, 0);
        y.show(0, 0);
        y.show(1, 1);
        Due.is(8, "GONE", y.says(0, 4), 1);
        y.back();
        Due.is(8, "not GONE any more", y.says(0, 4), Due.OTHER);
        Due.is(8, "its number", y.says(0, 0), 0);
        Due.is(8, "NOTHING", y.says(1, 0), Due.NOTHING);
        y.field(3, 0);
        Due.is(8, "NOTHING still", y.says(1, 0), Due.NOTHING);
        // What is kept may have more FIELDS than there are: they are there again.
        DeedCourt z = new DeedCourt();
        z.image();
        z.field(0, 0);
        z.back();
        z.field(1, 4);
        z.image();
        z.show(5, 0);
        z.back();
        Due.is(59, "the FIELD is there", z.says(5, 1), 0);
    }

    /** "All is kept .., but THE TAPE, SHELVES and how many REFUSALS there were". */
    private static void notKept() {
        DeedCourt x = Due.land(2);
        x.feed('0', 1);
        x.row(0, 0, 1);
        x.row(9, 0, 1);
        x.image();
        Due.feed(x, " over 1");
        x.row(1, 1, 1);
        x.show(0, 1);
        x.row(9, 0, 1);
        x.set(2, 0, 0);
        x.back();
        Due.is(59, "THE TAPE is as it is", x.status(2), 8);
        Due.is(59, "SHELVES are as they are", x.holds(0), 11);
        Due.is(59, "SHELVES are as they are", x.holds(1), 1);
        Due.is(59, "BAD", x.status(12), 2);
        Due.is(59, "NOTHING", x.status(14), 1);
        Due.is(14, "THE TAPE is read", x.deed(), 0);
        x.image();
        Due.is(13, "wipe", x.wipe(), 0);
        x.back();
        Due.is(59, "empty still", x.wipe(), 0);
    }

    /** "(SEED, too)": each thing on its own comes back. */
    private static void allIsKept() {
        DeedCourt x = Due.land(3, "0 old 1 or edge 1 weight 7", "1 over 2");
        x.mean(1, 4);
        x.drop(1, true);
        Due.draw(x, 1, "##");
        x.seed(-9);
        x.draw(5);
        int seed = x.status(3);
        x.lay(0);
        int mate = x.mate(3);
        x.begin(6);
        x.step(1);
        x.image();
        x.part(0, 9);
        x.mean(1, NONE);
        x.drop(1, false);
        x.drop(0, true);
        x.weigh(0, 8);
        Due.draw(x, 1, "#");
        x.seed(0);
        x.draw(100);
        x.lay(0);
        x.step(1);
        x.begin(7);
        Due.is(59, "back", x.back(), 1);
        Due.is(59, "FIELDS", x.status(0), 3);
        Due.is(59, "not GONE", x.fieldOf(0, 0), 0);
        Due.is(59, "not parted", x.fieldOf(0, 2), NONE);
        Due.is(59, "no part", x.fieldOf(0, 3), NONE);
        Due.is(59, "the OLD WORD", x.deedOf(0, 5), 24);
        Due.is(59, "DROPPED", x.deedOf(1, 6), 1);
        Due.is(59, "not DROPPED", x.deedOf(0, 6), 0);
        Due.is(59, "weight", x.deedOf(0, 3), 7);
        Due.is(59, "GROUND", x.groundOf(1), 3);
        Due.is(59, "SEED", x.status(3), seed);
        Due.is(59, "CELLS", x.mate(3), mate);
        Due.is(59, "the SEARCH's YEAR", x.search(0), 6);
        Due.is(59, "its CHOICES", x.search(1), 1);
        Due.is(59, "its PAIRS", x.search(4), 1);
        Due.is(59, "it goes on", x.step(9), 2);
        Due.is(59, "FOUND", x.search(3), 1);
    }

    /** Ten FIELDS, 24 DEEDS, a hundred CELLS, a SEARCH far on. */
    private static void fullIsKept() {
        DeedCourt x = Due.land(10);
        for (int d = 0; d < 24; d++) {
            Due.deed(x, (d % 9) + "edge" + (d % 9 + 1));
        }
        Due.is(42, "a hundred CELLS", x.lay(0), 100);
        x.begin(0);
        x.step(44);
        x.image();
        for (int d = 0; d < 24; d++) {
            x.drop(d, true);
        }
        x.lay(0);
        x.step(1);
        Due.draw(x, 9, "#");
        x.back();
        Due.is(59, "the last CELL's MATE", x.mate(99), 98);
        Due.is(59, "the last DEED", x.deedOf(23, 6), 0);
        Due.is(59, "the last FIELD's GROUND", x.groundOf(9), 0);
        Due.is(59, "CHOICES", x.search(1), 44);
        Due.is(59, "the last one", x.step(9), 1);
        Due.is(59, "FOUND", x.search(3), 1);
        Due.is(59, "EDGE all along", x.laid(0, 9), 3);
        Due.is(9, "no more FIELDS", x.field(0, 0), Due.FULL);
        Due.is(14, "no more DEEDS", x.deed(), Due.FULL);
    }

    /** A SEARCH that was FOUND, had ended, was SPENT when it was kept is so again. */
    private static void searches() {
        DeedCourt x = Due.land(2, "0 over 1", "0 edge 1 year 1");
        x.begin(0);
        x.step(1);
        x.image();
        x.begin(1);
        Due.is(57, "ended", x.search(3), 2);
        x.back();
        Due.is(59, "FOUND", x.search(3), 1);
        Due.is(56, "FOUND", x.step(1), STATE);
        x.begin(1);
        x.image();
        x.begin(0);
        x.back();
        Due.is(59, "ended", x.search(3), 2);
        DeedCourt hard = Hard.land(5);
        hard.begin(0);
        for (int i = 0; i < 20; i++) {
            hard.step(999);
        }
        hard.image();
        hard.step(20);
        Due.is(57, "SPENT", hard.search(3), 3);
        hard.back();
        Due.is(59, "it goes on", hard.search(3), 0);
        Due.is(59, "CHOICES", hard.search(1), 19980);
        Due.is(56, "step", hard.step(19), 19);
        Due.is(57, "it goes on", hard.search(3), 0);
        Due.is(56, "the 20,000th", hard.step(1), 1);
        hard.image();
        hard.begin(0);
        hard.back();
        Due.is(59, "SPENT", hard.search(3), 3);
        Due.is(56, "SPENT", hard.step(1), STATE);
    }

    /** A SEARCH that was kept goes on as if nothing had been between, whatever had. */
    private static void searchesGoOn() {
        for (int made = 0; made <= 24; made += 4) {
            for (int between = 0; between < 4; between++) {
                DeedCourt due = beginHard(made);
                DeedCourt x = beginHard(made);
                x.image();
                if (between == 1) {
                    x.step(9);
                } else if (between == 2) {
                    x.begin(1);
                    x.step(20);
                } else if (between == 3) {
                    x.field(0, 0);
                    x.drop(3, true);
                    x.begin(0);
                    x.step(999);
                }
                x.back();
                for (int i = 0; i < 40; i++) {
                    Due.is(59, "step", x.step(1), due.step(1));
                    for (int what = 0; what <= 4; what++) {
                        Due.is(59, "search(" + what + "), kept at " + made, x.search(what), due.search(what));
                    }
                }
            }
        }
    }

    /** Four that can't be, and one ahead of them; in the YEAR 1 more is said. So many CHOICES are made. */
    private static DeedCourt beginHard(int made) {
        DeedCourt x = Hard.land(1);
        Due.deed(x, "0 same 1 year 1");
        x.begin(0);
        if (made > 0) {
            x.step(made);
        }
        return x;
    }

    /** Each OLD WORD, 0 to 3. */
    private static void oldWords() {
        DeedCourt x = new DeedCourt();
        for (int word = 0; word < 4; word++) {
            x.mean(word, 7 - word);
        }
        x.image();
        for (int word = 0; word < 4; word++) {
            x.mean(word, NONE);
        }
        x.back();
        for (int word = 0; word < 4; word++) {
            Due.is(59, "OLD WORD " + word, x.mean(word, word), 7 - word);
        }
        x.back();
        for (int word = 0; word < 4; word++) {
            Due.is(59, "once more", x.mean(word, NONE), 7 - word);
        }
    }

    /** Numbers that are free again are taken anew; of what had them nothing is left. */
    private static void numbersAnew() {
        DeedCourt x = Due.land(2, "0 over 1");
        x.image();
        x.field(3, 5);
        Due.draw(x, 2, "##");
        x.part(2, 9);
        Due.draw(x, 3, "#");
        Due.draw(x, 4, " #");
        Due.deed(x, "4 not old 1 or edge 3 year 7 weight 9");
        x.drop(1, true);
        Due.deed(x, "1 north 0 year 3");
        x.drop(2, true);
        x.weigh(2, 50);
        x.back();
        int[] field = {1, 8, NONE, NONE};
        for (int f = 2; f <= 4; f++) {
            Due.is(9, "the number is free again", x.field(1, 8), f);
            for (int what = 0; what < field.length; what++) {
                Due.is(10, "FIELD " + f + " anew", x.fieldOf(f, what), field[what]);
            }
            Due.is(47, "no GROUND at first", x.groundOf(f), 0);
        }
        int[] deed = {1, 0, 0, 1, NONE, 2, 0};
        for (int d = 1; d <= 2; d++) {
            Due.is(14, "the number is free again", Due.deed(x, "1 touch 0"), d);
            for (int what = 0; what < deed.length; what++) {
                Due.is(15, "DEED " + d + " anew", x.deedOf(d, what), deed[what]);
            }
        }
    }

    /** What was kept last counts; what came behind it doesn't touch it. */
    private static void imageAnew() {
        DeedCourt x = Due.land(1);
        x.image();
        x.field(0, 0);
        x.image();
        x.field(0, 0);
        x.back();
        Due.is(59, "as it was kept last", x.status(0), 2);
        x.field(3, 7);
        x.back();
        Due.is(59, "once more", x.status(0), 2);
        x.image();
        Due.is(59, "kept as it came back", x.back() + x.status(0), 3);
        Due.is(60, "nothing is refused", x.status(15), 0);
    }

    /** "NONE another what." */
    private static void status() {
        DeedCourt x = new DeedCourt();
        for (int what = -3; what <= 20; what++) {
            int due = what == 3 ? 1 : what >= 0 && what <= 4 || what >= 12 && what <= 16 ? 0 : NONE;
            Due.is(60, "status(" + what + ")", x.status(what), due);
        }
        Due.is(60, "the least", x.status(Integer.MIN_VALUE), NONE);
        Due.is(60, "the greatest", x.status(Integer.MAX_VALUE), NONE);
        Due.is(60, "nothing is refused", x.status(12), 0);
        x.seed(NONE);
        Due.is(60, "a SEED that is less than 0", x.status(3), -1);
    }

    /** "An object is used for at most 512 calls": the 512th is answered as the others are. */
    private static void lastCalls() {
        DeedCourt x = new DeedCourt();
        for (int i = 1; i <= 511; i++) {
            Due.is(2, "call " + i, x.row(8, 0, 0), BAD);
        }
        Due.is(60, "call 512", x.status(12), 511);
        DeedCourt y = Due.land(10);
        for (int f = 0; f < 9; f++) {
            Due.deed(y, f + "within" + (f + 1));
        }
        // Ten FIELDS, nine DEEDS of three feeds each.
        int made = 10 + 9 * 3;
        for (int i = made; i < 511; i++) {
            Due.is(26, "choose", y.choose(0), 45);
        }
        Due.is(31, "call 512", y.must(9, 0, 0), NONE);
    }
}
