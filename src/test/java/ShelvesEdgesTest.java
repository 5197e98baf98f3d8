/** The boundaries that promises 1 to 8 name: SHELVES, ROWS, and FIELDS on SHELVES. (Refused calls: RefusedTest.) */
public final class ShelvesEdgesTest {
    private static final int NONE = Due.NONE;
    private static final int OTHER = Due.OTHER;

    private ShelvesEdgesTest() {
    }

    public static void main(String[] args) {
        newObject();
        shelves();
        sizes();
        atFirst();
        lowestBits();
        copyEnds();
        copyAsTheyWere();
        copyKeepsBits();
        holds();
        shows();
        says();
        sayKinds();
        Due.end("ShelvesEdgesTest");
    }

    /** "No FIELDS, no DEEDS; SHELVES hold NOTHING; THE TAPE is empty", and what the terms say of the first. */
    private static void newObject() {
        DeedCourt x = new DeedCourt();
        for (int s = 0; s < 8; s++) {
            Due.is(1, "SHELVES hold NOTHING", x.holds(s), NONE);
        }
        Due.is(1, "no FIELDS", x.status(0), 0);
        Due.is(1, "no DEEDS", x.status(1), 0);
        Due.is(1, "THE TAPE is empty", x.status(2), 0);
        Due.is(1, "SEED (1 at first)", x.status(3), 1);
        Due.is(1, "no SHELF holds something", x.status(4), 0);
        for (int what = 12; what <= 16; what++) {
            Due.is(1, "no REFUSALS", x.status(what), 0);
        }
        Due.is(1, "wipe of the empty TAPE", x.wipe(), 0);
        Due.is(1, "SEED", x.seed(1), 1);
        for (int word = 0; word < 4; word++) {
            Due.is(1, "an OLD WORD means no WAY at first", x.mean(word, NONE), NONE);
        }
        for (int i = 0; i < 64; i++) {
            Due.is(1, "nothing is FOUND yet", x.found(i / 8, i % 8), 0);
        }
        Due.is(1, "no FIELD 0", x.fieldOf(0, 0), Due.BAD);
        Due.is(1, "no DEED 0", x.deedOf(0, 0), Due.BAD);
        Due.is(1, "no CELL 0", x.mate(0), Due.BAD);
        Due.is(1, "no SEARCH", x.search(0), Due.STATE);
        Due.is(1, "nothing kept", x.back(), Due.STATE);
        Due.is(1, "NONE", DeedCourt.NONE, -1);
        DeedCourt y = new DeedCourt();
        y.field(0, 0);
        Due.is(1, "another object has none of it", new DeedCourt().status(0), 0);
    }

    /** "SHELVES 0 to 7". */
    private static void shelves() {
        for (int s : new int[] {0, 7}) {
            DeedCourt x = Due.land(1);
            Due.is(2, "row", x.row(s, 2, 4), 1);
            Due.is(3, "set", x.set(s, 0, 5), 1);
            Due.is(4, "copy to it", x.copy(s, s, 0, 1, 1), 1);
            Due.is(5, "element", x.element(s, 1), 5);
            Due.is(6, "holds", x.holds(s), 2);
            Due.is(46, "ground by it", x.ground(0, s), 2);
            Due.is(7, "show", x.show(s, 0), 1);
            Due.is(8, "says", x.says(s, 0), 0);
            Due.is(6, "the others hold NOTHING", x.status(4), 1);
            Due.is(60, "nothing was refused", x.status(12) + x.status(13) + x.status(14), 0);
        }
        DeedCourt x = new DeedCourt();
        x.row(0, 1, 2);
        x.row(7, 1, 2);
        x.set(0, 0, 3);
        Due.is(4, "from the first to the last", x.copy(0, 7, 0, 1, 1), 1);
        Due.is(5, "element", x.element(7, 1), 3);
        Due.is(4, "from the last to the first", x.copy(7, 0, 1, 1, 1), 1);
        Due.is(5, "element", x.element(0, 1), 3);
    }

    /** "0 to 64 elements": the first and the last are elements, the one behind the last isn't. */
    private static void sizes() {
        for (int n : new int[] {0, 1, 2, 63, 64}) {
            for (int sort = 0; sort <= 4; sort++) {
                DeedCourt x = new DeedCourt();
                Due.is(2, "row of " + n, x.row(0, sort, n), 1);
                Due.is(6, "it is held, of whatever size", x.holds(0), sort);
                Due.is(60, "the SHELF holds something", x.status(4), 1);
                if (n > 0) {
                    Due.is(3, "set of the first", x.set(0, 0, 1), 1);
                    Due.is(3, "set of the last", x.set(0, n - 1, 1), 1);
                    Due.is(5, "the last", x.element(0, n - 1), 1);
                }
                Due.is(3, "set behind the last", x.set(0, n, 1), Due.BAD);
                Due.is(3, "set ahead of the first", x.set(0, -1, 1), Due.BAD);
                Due.is(5, "behind the last", x.element(0, n), 0);
                Due.is(5, "ahead of the first", x.element(0, -1), 0);
            }
        }
    }

    /** "elements (0, or not so, at first)", "SHELF s holds a new ROW". */
    private static void atFirst() {
        DeedCourt x = new DeedCourt();
        for (int sort = 0; sort <= 4; sort++) {
            x.row(0, sort, 64);
            for (int i = 0; i < 64; i += 9) {
                Due.is(2, "at first", x.element(0, i), 0);
                x.set(0, i, -1);
            }
            x.row(0, sort, 1);
            Due.is(2, "anew, smaller", x.element(0, 0), 0);
            Due.is(5, "what was behind its end", x.element(0, 9), 0);
            x.row(0, sort, 64);
            Due.is(2, "anew, greater", x.element(0, 9) + x.element(0, 63), 0);
            x.set(0, 63, 1);
            x.row(0, sort, 64);
            Due.is(2, "anew, as great", x.element(0, 63), 0);
        }
    }

    /** "what is put in keeps its lowest bits (of booleans: whether it is not 0); told they are numbers (1, 0)". */
    private static void lowestBits() {
        long[] least = {-128, -32768, Integer.MIN_VALUE, Long.MIN_VALUE};
        long[] most = {127, 32767, Integer.MAX_VALUE, Long.MAX_VALUE};
        DeedCourt x = new DeedCourt();
        for (int sort = 0; sort <= 3; sort++) {
            x.row(sort, sort, 1);
            kept(x, sort, least[sort], least[sort]);
            kept(x, sort, most[sort], most[sort]);
            kept(x, sort, most[sort] + 1, least[sort]);
            kept(x, sort, least[sort] - 1, most[sort]);
            kept(x, sort, -1, -1);
            kept(x, sort, 0, 0);
            if (sort < 3) {
                kept(x, sort, 2 * (most[sort] + 1), 0);
                kept(x, sort, 2 * (most[sort] + 1) - 1, -1);
                kept(x, sort, Long.MIN_VALUE, 0);
                kept(x, sort, Long.MAX_VALUE, -1);
            }
        }
        x.row(4, 4, 1);
        for (long so : new long[] {1, -1, 2, 256, 65536, 1L << 32, Long.MIN_VALUE, Long.MAX_VALUE}) {
            kept(x, 4, so, 1);
            kept(x, 4, 0, 0);
        }
    }

    private static void kept(DeedCourt x, int s, long v, long due) {
        Due.is(3, "set of " + v, x.set(s, 0, v), 1);
        Due.is(3, "SORT " + s + " keeps of " + v, x.element(s, 0), due);
    }

    private static DeedCourt twoRows(int n, int m) {
        DeedCourt x = new DeedCourt();
        x.row(0, 2, n);
        x.row(1, 2, m);
        for (int i = 0; i < n; i++) {
            x.set(0, i, i + 1);
        }
        return x;
    }

    private static void copied(int n, int m, int i, int j, int count, boolean isFine) {
        DeedCourt x = twoRows(n, m);
        String call = count + " from " + i + " of " + n + " on to " + j + " of " + m + " on";
        Due.is(4, call, x.copy(0, 1, i, j, count), isFine ? count : Due.BAD);
        for (int k = 0; k < m; k++) {
            boolean isNew = isFine && k >= j && k < j + count;
            Due.is(4, call + ", element " + k, x.element(1, k), isNew ? i + k - j + 1 : 0);
        }
        Due.is(60, call + ": BAD", x.status(12), isFine ? 0 : 1);
    }

    /** The first and the last of each ROW, all of them, none; one more than there are. */
    private static void copyEnds() {
        copied(64, 64, 0, 0, 64, true);
        copied(64, 64, 0, 0, 65, false);
        copied(64, 64, 1, 0, 64, false);
        copied(64, 64, 0, 1, 64, false);
        copied(64, 64, 1, 1, 63, true);
        copied(64, 64, 63, 63, 1, true);
        copied(64, 64, 63, 0, 2, false);
        copied(64, 64, 0, 63, 2, false);
        copied(64, 64, 64, 64, 0, true);
        copied(64, 64, 65, 0, 0, false);
        copied(64, 64, 0, 65, 0, false);
        copied(64, 64, -1, 0, 0, false);
        copied(64, 64, 0, -1, 0, false);
        copied(64, 64, 0, 0, -1, false);
        copied(3, 5, 0, 2, 3, true);
        copied(3, 5, 0, 3, 3, false);
        copied(5, 3, 2, 0, 3, true);
        copied(5, 3, 0, 0, 4, false);
        copied(0, 0, 0, 0, 0, true);
        copied(0, 3, 0, 3, 0, true);
        copied(0, 3, 0, 0, 1, false);
        copied(3, 0, 3, 0, 0, true);
        copied(3, 0, 0, 0, 1, false);
    }

    /** "(as they were)": of a ROW to itself, on and back, by one and by more, and to the same place. */
    private static void copyAsTheyWere() {
        int[][] moves = {{0, 1, 5}, {1, 0, 5}, {0, 3, 3}, {3, 0, 3}, {0, 0, 6}, {0, 5, 1}, {5, 0, 1}};
        for (int[] m : moves) {
            DeedCourt x = twoRows(6, 0);
            Due.is(4, "copy to itself", x.copy(0, 0, m[0], m[1], m[2]), m[2]);
            for (int k = 0; k < 6; k++) {
                boolean isNew = k >= m[1] && k < m[1] + m[2];
                Due.is(4, "as it was, " + k, x.element(0, k), isNew ? m[0] + k - m[1] + 1 : k + 1);
            }
        }
    }

    private static void copyKeepsBits() {
        long[] greatest = {127, 32767, Integer.MAX_VALUE, Long.MAX_VALUE, 1};
        for (int sort = 0; sort <= 4; sort++) {
            DeedCourt x = new DeedCourt();
            x.row(0, sort, 1);
            x.row(1, sort, 1);
            x.set(0, 0, greatest[sort]);
            Due.is(4, "copy", x.copy(0, 1, 0, 0, 1), 1);
            Due.is(4, "an element of each SORT", x.element(1, 0), greatest[sort]);
            x.row(1, (sort + 1) % 5, 1);
            Due.is(4, "not to another SORT", x.copy(0, 1, 0, 0, 1), OTHER);
            Due.is(4, "not from another SORT", x.copy(1, 0, 0, 0, 1), OTHER);
        }
    }

    /** "NONE NOTHING, no SHELF; 0 to 4 a ROW by its SORT; 10 and the number of a FIELD". */
    private static void holds() {
        DeedCourt x = Due.land(10);
        x.show(0, 0);
        x.show(1, 9);
        x.row(2, 0, 0);
        x.row(3, 4, 0);
        Due.is(6, "the first FIELD", x.holds(0), 10);
        Due.is(6, "the last FIELD", x.holds(1), 19);
        Due.is(6, "the first SORT", x.holds(2), 0);
        Due.is(6, "the last SORT", x.holds(3), 4);
        Due.is(6, "NOTHING", x.holds(4), NONE);
        Due.is(6, "no SHELF", x.holds(-1), NONE);
        Due.is(6, "no SHELF", x.holds(8), NONE);
        Due.is(60, "nothing is refused", x.status(12), 0);
    }

    /** "SHELF s holds a FIELD, or NOTHING (field NONE)". */
    private static void shows() {
        DeedCourt x = Due.land(2);
        Due.is(7, "the first", x.show(0, 0), 1);
        Due.is(7, "the last", x.show(1, 1), 1);
        Due.is(7, "none behind the last", x.show(2, 2), Due.BAD);
        Due.is(7, "none ahead of NONE", x.show(2, -2), Due.BAD);
        Due.is(6, "nothing changes", x.holds(2), NONE);
        Due.is(7, "one on two SHELVES", x.show(2, 1), 1);
        Due.is(60, "three SHELVES", x.status(4), 3);
        Due.is(7, "NONE on a FIELD", x.show(0, NONE), 1);
        x.row(3, 1, 1);
        x.set(3, 0, 5);
        Due.is(7, "NONE on a ROW", x.show(3, NONE), 1);
        Due.is(5, "it is no ROW any more", x.element(3, 0), 0);
        Due.is(3, "it holds NOTHING", x.set(3, 0, 1), Due.NOTHING);
        Due.is(7, "NONE on NOTHING", x.show(4, NONE), 1);
        Due.is(60, "two SHELVES", x.status(4), 2);
        Due.is(2, "a ROW where a FIELD was", x.row(1, 1, 1), 1);
        Due.is(8, "it is no FIELD any more", x.says(1, 0), OTHER);
        for (int s = 0; s < 8; s++) {
            x.show(s, 0);
        }
        Due.is(60, "all SHELVES", x.status(4), 8);
        Due.is(7, "no FIELDS, but NONE", new DeedCourt().show(0, NONE), 1);
        Due.is(7, "no FIELDS", new DeedCourt().show(0, 0), Due.BAD);
    }

    /** What is told of an empty GROUND, of one cell, of corners, of the whole board. */
    private static void says() {
        DeedCourt x = new DeedCourt();
        x.field(3, 0);
        x.show(0, 0);
        said(x, 0, 0, NONE);
        x.row(1, 4, 64);
        int[][] due = {{0, 1, 0}, {7, 1, 7}, {56, 1, 700}, {63, 1, 707}, {8, 1, 100}, {15, 1, 107}, {48, 1, 600}, {62, 1, 706},
            {9, 0, 101}, {14, 0, 106}, {49, 0, 601}, {54, 0, 606}};
        for (int[] d : due) {
            x.set(1, d[0], 1);
            x.ground(0, 1);
            said(x, 1, d[1], d[2]);
            x.set(1, d[0], 0);
        }
        x.set(1, 7, 1);
        x.set(1, 56, 1);
        x.ground(0, 1);
        said(x, 2, 2, 0);
        for (int i = 0; i < 64; i++) {
            x.set(1, i, 1);
        }
        x.ground(0, 1);
        said(x, 64, 28, 0);
        for (int i = 0; i < 64; i++) {
            boolean isRim = i < 8 || i >= 56 || i % 8 == 0 || i % 8 == 7;
            x.set(1, i, isRim ? 0 : 1);
        }
        x.ground(0, 1);
        said(x, 36, 0, 101);
    }

    private static void said(DeedCourt x, int cells, int rim, int first) {
        Due.is(8, "taken for a PIECE: how many cells", x.says(0, 1), cells);
        Due.is(8, "taken for a DISC: how many on the rim", x.says(0, 2), rim);
        Due.is(8, "taken for a BOX: first row and column", x.says(0, 3), first);
    }

    /** "OTHER (also one of no such KIND nor of one under it)". */
    private static void sayKinds() {
        boolean[][] fine = {{true, false, false, false, false}, {true, true, false, false, false},
            {true, true, true, false, false}, {true, true, true, true, false}, {true, false, false, false, true}};
        for (int is = 0; is <= 4; is++) {
            for (int kind = 0; kind <= 4; kind++) {
                DeedCourt x = new DeedCourt();
                x.field(Math.min(is, 3), 0);
                x.show(7, 0);
                if (is == 4) {
                    x.part(0, 0);
                }
                int due = kind == 3 ? NONE : kind == 4 ? 1 : 0;
                Due.is(8, "KIND " + is + " taken for " + kind, x.says(7, kind), fine[is][kind] ? due : OTHER);
                Due.is(60, "OTHER", x.status(13), fine[is][kind] ? 0 : 1);
            }
        }
    }
}
