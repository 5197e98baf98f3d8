/** The boundaries that promises 42 to 45 name: CELLS, MATES, and how FIELDS lie by them. */
public final class CellsEdgesTest {
    private static final int NONE = Due.NONE;
    private static final int BAD = Due.BAD;
    private static final int STATE = Due.STATE;

    private CellsEdgesTest() {
    }

    public static void main(String[] args) {
        fewFields();
        nothingLaid();
        noMates();
        mates();
        mostCells();
        stays();
        greaterAhead();
        fieldsThatCame();
        rings();
        years();
        Due.end("CellsEdgesTest");
    }

    private static void fewFields() {
        DeedCourt none = new DeedCourt();
        Due.is(42, "no FIELDS, no CELLS", none.lay(0), 0);
        Due.is(43, "no CELLS", none.cell(0, 0), BAD);
        Due.is(44, "no CELLS", none.mate(0), BAD);
        DeedCourt one = Due.land(1);
        Due.is(42, "one FIELD, one CELL", one.lay(999), 1);
        Due.is(43, "it is in it", one.cell(0, 0), 1);
        Due.is(44, "it has no MATE", one.mate(0), NONE);
        Due.is(43, "no other CELL", one.cell(1, 0), BAD);
        Due.is(43, "no other FIELD", one.cell(0, 1), BAD);
        Due.is(45, "it and itself", one.laid(0, 0), BAD);
    }

    /** "NONE: one of them has none." */
    private static void nothingLaid() {
        DeedCourt x = Due.land(2);
        Due.is(45, "nothing is laid yet", x.laid(0, 1), NONE);
        Due.is(43, "nothing is laid yet", x.cell(0, 0), BAD);
        Due.is(44, "nothing is laid yet", x.mate(0), BAD);
        Due.is(60, "BAD", x.status(12), 2);
    }

    /** Of APART, OVER, INSIDE, HOLDS and SAME no CELL has a MATE; OVER has one more. */
    private static void noMates() {
        String[] ways = {"apart", "", "over", "", "inside", "", "holds", "same"};
        for (int way = 0; way < 8; way++) {
            if (!ways[way].isEmpty()) {
                DeedCourt x = Due.land(2, "0 " + ways[way] + " 1");
                int cells = way == 2 ? 3 : 2;
                Due.is(42, ways[way], x.lay(0), cells);
                for (int c = 0; c < cells; c++) {
                    Due.is(44, ways[way] + ": no MATE", x.mate(c), NONE);
                }
                Due.is(44, "behind the last", x.mate(cells), BAD);
                Due.is(44, "ahead of the first", x.mate(-1), BAD);
                Due.is(43, "behind the last", x.cell(cells, 0), BAD);
                Due.is(43, "ahead of the first", x.cell(-1, 0), BAD);
                Due.is(45, ways[way], x.laid(0, 1), way);
            }
        }
    }

    /** "TOUCH: two MATES", "EDGE: two MATES", "ROUND: likewise of y". */
    private static void mates() {
        String[] ways = {"", "touch", "", "edge", "", "round"};
        int[][] in = {{}, {1, 2}, {}, {3, 0}, {}, {3, 0}};
        for (int way = 1; way < 6; way += 2) {
            DeedCourt x = Due.land(2, "0 " + ways[way] + " 1");
            Due.is(42, ways[way], x.lay(0), 4);
            Due.is(44, "the FIELDS' own have none", x.mate(0), NONE);
            Due.is(44, "the FIELDS' own have none", x.mate(1), NONE);
            Due.is(44, "MATE", x.mate(2), 3);
            Due.is(44, "MATE", x.mate(3), 2);
            for (int c = 0; c < 2; c++) {
                Due.is(43, ways[way] + ": in 0", x.cell(2 + c, 0), in[way][c] & 1);
                Due.is(43, ways[way] + ": in 1", x.cell(2 + c, 1), in[way][c] >> 1);
            }
            Due.is(45, ways[way], x.laid(0, 1), way);
        }
    }

    /** Ten FIELDS of which each lies to the next ones by EDGE: two MATES for each PAIR. */
    private static void mostCells() {
        DeedCourt x = Due.land(10);
        for (int f = 0; f < 9; f++) {
            Due.deed(x, f + "edge" + (f + 1));
        }
        Due.is(42, "ten, and two for each of 45 PAIRS", x.lay(0), 100);
        Due.is(44, "the last one's MATE", x.mate(99), 98);
        Due.is(44, "the last but one's", x.mate(98), 99);
        Due.is(44, "the tenth's", x.mate(9), NONE);
        Due.is(44, "the eleventh's", x.mate(10), 11);
        Due.is(44, "none behind the last", x.mate(100), BAD);
        Due.is(43, "the last one is in none of UP of 8", x.cell(99, 9), 0);
        Due.is(43, "the last but one is", x.cell(98, 9), 1);
        Due.is(43, "the last but one is", x.cell(98, 8), 1);
        Due.is(43, "but not in what lies below it", x.cell(98, 7), 0);
        Due.is(43, "none behind the last", x.cell(100, 9), BAD);
        Due.is(43, "no such FIELD", x.cell(99, 10), BAD);
        for (int f = 0; f < 9; f++) {
            Due.is(45, "EDGE", x.laid(f, 9), 3);
            Due.is(45, "ROUND", x.laid(9, f), 5);
        }
        DeedCourt all = Due.land(10);
        Due.is(42, "all APART: ten", all.lay(0), 10);
        Due.is(45, "APART", all.laid(0, 9), 0);
    }

    /** "NONE: there is none (what was laid stays)", and so it does if a call is refused. */
    private static void stays() {
        DeedCourt x = Due.land(2, "0 touch 1", "1 edge 0 year 5");
        Due.is(42, "none, and nothing was laid", x.lay(5), NONE);
        Due.is(44, "nothing was laid", x.mate(0), BAD);
        Due.is(42, "lay", x.lay(4), 4);
        Due.is(42, "there is none", x.lay(5), NONE);
        Due.is(44, "what was laid stays", x.mate(3), 2);
        Due.is(45, "what was laid stays", x.laid(0, 1), 1);
        Due.is(42, "a bad YEAR", x.lay(1000), BAD);
        Due.is(42, "a bad YEAR", x.lay(-1), BAD);
        Due.is(44, "what was laid stays", x.mate(3), 2);
        DeedCourt hard = Hard.land(5);
        Due.is(42, "SPENT", hard.lay(0), STATE);
        Due.is(44, "nothing was laid", hard.mate(0), BAD);
        for (int d = 0; d < 6; d++) {
            hard.drop(d, true);
        }
        Due.is(42, "all APART", hard.lay(0), 9);
        for (int d = 0; d < 6; d++) {
            hard.drop(d, false);
        }
        Due.is(42, "SPENT", hard.lay(0), STATE);
        Due.is(45, "what was laid stays", hard.laid(5, 6), 0);
        Due.is(44, "what was laid stays", hard.mate(8), NONE);
        Due.is(60, "STATE", hard.status(15), 2);
    }

    /** "what was laid last": of the CELLS of a greater land that was laid ahead of it nothing is left. */
    private static void greaterAhead() {
        DeedCourt x = Due.land(2, "0 touch 1");
        Due.is(42, "two and two MATES", x.lay(0), 4);
        x.field(0, 0);
        x.drop(0, true);
        Due.is(42, "three, all APART", x.lay(0), 3);
        for (int a = 0; a < 3; a++) {
            for (int b = 0; b < 3; b++) {
                Due.is(43, "CELL " + a + " in " + b, x.cell(a, b), a == b ? 1 : 0);
                Due.is(45, "APART: " + a + ", " + b, x.laid(a, b), a == b ? BAD : 0);
            }
        }
        Due.is(44, "no MATE", x.mate(2), NONE);
        Due.is(44, "what was the MATE of 2", x.mate(3), BAD);
        // Of 0 and 1 by EDGE, 1 had the MATE of CELL 2; INSIDE it has none.
        String[] ways = {"edge", "round"};
        for (int i = 0; i < 2; i++) {
            DeedCourt y = Due.land(2, "0 " + ways[i] + " 1", "0 not " + ways[i] + " 1");
            y.drop(1, true);
            Due.is(42, ways[i], y.lay(0), 4);
            y.drop(0, true);
            y.drop(1, false);
            Due.deed(y, "0 inside or holds 1");
            y.field(0, 0);
            Due.deed(y, "2 apart 0");
            Due.is(42, "INSIDE, and one APART", y.lay(0), 3);
            Due.is(45, "INSIDE", y.laid(0, 1), 4);
            Due.is(45, "HOLDS", y.laid(1, 0), 6);
            Due.is(45, "told", y.told(0, 2, 0), y.laid(0, 2));
            Due.is(45, "told", y.told(1, 2, 0), y.laid(1, 2));
        }
    }

    /** What was laid last says nothing of FIELDS that came behind it. */
    private static void fieldsThatCame() {
        DeedCourt x = Due.land(1);
        x.lay(0);
        Due.is(43, "no such FIELD", x.cell(0, 1), BAD);
        x.field(0, 0);
        Due.is(43, "it is in none", x.cell(0, 1), 0);
        Due.is(45, "it has none", x.laid(0, 1), NONE);
        Due.is(45, "it has none", x.laid(1, 0), NONE);
        x.part(1, 0);
        Due.is(45, "neither has one", x.laid(2, 3), NONE);
        x.drop(0, true);
        Due.is(43, "a DEED changes nothing of it", x.cell(0, 0), 1);
        Due.is(42, "anew", x.lay(0) > 4 ? 1 : 0, 1);
        Due.is(45, "now each has one", x.laid(2, 1), x.told(2, 1, 0));
    }

    /** LAND of the first TELLING, of which RINGS say nothing. */
    private static void rings() {
        DeedCourt x = Due.land(2, "0 north 1", "1 north 0");
        Due.is(25, "it CAN not be", x.can(0), 0);
        Due.is(42, "but there is a TELLING", x.lay(0), 2);
        Due.is(45, "APART", x.laid(0, 1), 0);
    }

    private static void years() {
        DeedCourt x = Due.land(2, "0 touch 1 year 999");
        Due.is(42, "the year ahead of it", x.lay(998), 2);
        Due.is(42, "its own YEAR", x.lay(999), 4);
        Due.is(42, "the first YEAR", x.lay(0), 2);
        Due.is(44, "what was laid last", x.mate(2), BAD);
    }
}
