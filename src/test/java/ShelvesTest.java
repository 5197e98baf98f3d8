/** Promises 1 to 8: a new object, and what its shelves hold. */
public final class ShelvesTest {
    private static final int BAD = -2;
    private static final int OTHER = -3;
    private static final int NOTHING = -4;

    private ShelvesTest() {
    }

    public static void main(String[] args) {
        newObject();
        rows();
        elements();
        copies();
        shown();
        said();
        Due.end("ShelvesTest");
    }

    private static void newObject() {
        DeedCourt x = new DeedCourt();
        for (int s = 0; s < 8; s++) {
            Due.is(1, "holds", x.holds(s), -1);
        }
        int[] due = {0, 0, 0, 1, 0};
        for (int what = 0; what < 5; what++) {
            Due.is(1, "status(" + what + ")", x.status(what), due[what]);
        }
        for (int what = 12; what <= 16; what++) {
            Due.is(1, "status(" + what + ")", x.status(what), 0);
        }
        Due.is(1, "wipe", x.wipe(), 0);
        Due.is(1, "mate", x.mate(0), BAD);
        Due.is(1, "found", x.found(0, 0), 0);
        Due.is(1, "search", x.search(3), -5);
        Due.is(1, "NONE", DeedCourt.NONE, -1);
    }

    private static void rows() {
        DeedCourt x = new DeedCourt();
        for (int sort = 0; sort <= 4; sort++) {
            Due.is(2, "row", x.row(sort, sort, 64), 1);
            Due.is(2, "holds", x.holds(sort), sort);
            Due.is(2, "element", x.element(sort, 63), 0);
        }
        Due.is(2, "row of 0", x.row(7, 2, 0), 1);
        Due.is(2, "holds", x.holds(7), 2);
        Due.is(3, "set in a row of 0", x.set(7, 0, 1), BAD);
        int[][] bad = {{-1, 0, 1}, {8, 0, 1}, {0, -1, 1}, {0, 5, 1}, {0, 0, -1}, {0, 0, 65}, {Integer.MIN_VALUE, 0, 0}};
        for (int[] b : bad) {
            Due.is(2, "row bad", x.row(b[0], b[1], b[2]), BAD);
        }
        Due.is(2, "what is held stays", x.holds(0), 0);
        x.set(1, 3, 9);
        x.row(1, 1, 64);
        Due.is(2, "a new row", x.element(1, 3), 0);
        Due.is(60, "BAD", x.status(12), bad.length + 1);
    }

    private static void elements() {
        DeedCourt x = new DeedCourt();
        x.field(0, 0);
        long v = 0x123456789ABCDEF8L;
        long[] due = {(byte) 0xF8, (short) 0xDEF8, 0x9ABCDEF8, v, 1};
        for (int sort = 0; sort <= 4; sort++) {
            x.row(sort, sort, 3);
            Due.is(3, "set", x.set(sort, 2, v), 1);
            Due.is(5, "element", x.element(sort, 2), due[sort]);
            Due.is(5, "element", x.element(sort, 1), 0);
            Due.is(5, "no element", x.element(sort, 3), 0);
            Due.is(5, "no element", x.element(sort, -1), 0);
            Due.is(3, "no element", x.set(sort, 3, 1), BAD);
            Due.is(3, "no element", x.set(sort, -1, 1), BAD);
        }
        x.set(4, 2, 0);
        Due.is(3, "false", x.element(4, 2), 0);
        x.set(4, 2, 256);
        Due.is(3, "true by a higher bit", x.element(4, 2), 1);
        x.set(0, 0, 256);
        Due.is(3, "a byte by its lowest bits", x.element(0, 0), 0);
        x.show(5, 0);
        Due.is(3, "set of no shelf", x.set(8, 0, 1), BAD);
        Due.is(3, "set of no shelf", x.set(-1, 0, 1), BAD);
        Due.is(3, "set of a field", x.set(5, -1, 1), OTHER);
        Due.is(3, "set of nothing", x.set(6, -1, 1), NOTHING);
        Due.is(5, "element of a field", x.element(5, 0), 0);
        Due.is(5, "element of nothing", x.element(6, 0), 0);
        Due.is(5, "element of no shelf", x.element(8, 0), 0);
        Due.is(5, "element of no shelf", x.element(-1, 0), 0);
        Due.is(60, "OTHER", x.status(13), 1);
        Due.is(60, "NOTHING", x.status(14), 1);
        Due.is(60, "BAD", x.status(12), 12);
    }

    private static void copies() {
        DeedCourt x = new DeedCourt();
        x.field(0, 0);
        x.row(0, 2, 6);
        x.row(1, 2, 4);
        for (int i = 0; i < 6; i++) {
            x.set(0, i, i + 1);
        }
        Due.is(4, "copy", x.copy(0, 1, 2, 1, 3), 3);
        long[] due = {0, 3, 4, 5};
        for (int i = 0; i < 4; i++) {
            Due.is(4, "element", x.element(1, i), due[i]);
        }
        Due.is(4, "copy on itself, on", x.copy(0, 0, 0, 2, 4), 4);
        long[] on = {1, 2, 1, 2, 3, 4};
        for (int i = 0; i < 6; i++) {
            Due.is(4, "as they were", x.element(0, i), on[i]);
        }
        Due.is(4, "copy on itself, back", x.copy(0, 0, 2, 0, 4), 4);
        long[] back = {1, 2, 3, 4, 3, 4};
        for (int i = 0; i < 6; i++) {
            Due.is(4, "as they were", x.element(0, i), back[i]);
        }
        Due.is(4, "copy of none at the ends", x.copy(0, 1, 6, 4, 0), 0);
        int most = Integer.MAX_VALUE;
        int[][] bad = {{-1, 0, 1}, {0, -1, 1}, {0, 0, -1}, {0, 0, 5}, {0, 1, 4}, {3, 0, 4}, {7, 0, 0}, {0, 5, 0},
            {most, 0, 1}, {0, most, 1}, {0, 0, most}, {most, most, most}, {1, 1, most}, {0, 0, Integer.MIN_VALUE}};
        for (int[] b : bad) {
            Due.is(4, "copy bad", x.copy(0, 1, b[0], b[1], b[2]), BAD);
        }
        x.row(2, 3, 4);
        x.show(3, 0);
        Due.is(4, "no shelf", x.copy(8, 3, 0, 0, -1), BAD);
        Due.is(4, "no shelf", x.copy(3, -1, 0, 0, -1), BAD);
        Due.is(4, "two sorts", x.copy(0, 2, 0, 0, -1), OTHER);
        Due.is(4, "a field", x.copy(3, 4, 0, 0, -1), OTHER);
        Due.is(4, "a field", x.copy(4, 3, 0, 0, -1), OTHER);
        Due.is(4, "a field", x.copy(0, 3, 0, 0, -1), OTHER);
        Due.is(4, "nothing", x.copy(4, 0, 0, 0, -1), NOTHING);
        Due.is(4, "nothing", x.copy(0, 4, 0, 0, -1), NOTHING);
        Due.is(4, "nothing", x.copy(4, 5, 0, 0, -1), NOTHING);
    }

    private static void shown() {
        DeedCourt x = new DeedCourt();
        x.field(0, 0);
        x.field(3, 0);
        Due.is(7, "show", x.show(0, 1), 1);
        Due.is(6, "holds", x.holds(0), 11);
        Due.is(7, "show on a row", x.row(1, 3, 2) + x.show(1, 0), 2);
        Due.is(6, "holds", x.holds(1), 10);
        Due.is(60, "shelves that hold something", x.status(4), 2);
        Due.is(7, "show none", x.show(0, -1), 1);
        Due.is(6, "holds", x.holds(0), -1);
        Due.is(60, "shelves that hold something", x.status(4), 1);
        Due.is(7, "show none on nothing", x.show(0, -1), 1);
        Due.is(2, "row on a field", x.row(1, 3, 2), 1);
        Due.is(6, "holds", x.holds(1), 3);
        Due.is(7, "no such field", x.show(0, 2), BAD);
        Due.is(7, "no such field", x.show(0, -2), BAD);
        Due.is(7, "no shelf", x.show(8, 0), BAD);
        Due.is(7, "no shelf", x.show(-1, -1), BAD);
        Due.is(6, "no shelf", x.holds(8), -1);
        Due.is(6, "no shelf", x.holds(-1), -1);
        Due.is(60, "BAD", x.status(12), 4);
    }

    private static void said() {
        DeedCourt x = new DeedCourt();
        for (int kind = 0; kind <= 3; kind++) {
            x.field(kind, 0);
            x.show(kind, kind);
        }
        x.row(6, 0, 1);
        for (int f = 0; f <= 3; f++) {
            Due.draw(x, f, "", "   ##", "  ####", "", "", "", "", " # #");
        }
        int[] due = {-9, 8, 2, 101};
        for (int f = 0; f <= 3; f++) {
            Due.is(8, "says its number", x.says(f, 0), f);
            for (int kind = 1; kind <= 3; kind++) {
                Due.is(8, "says as " + kind, x.says(f, kind), kind <= f ? due[kind] : OTHER);
            }
            Due.is(8, "isn't gone", x.says(f, 4), OTHER);
        }
        Due.draw(x, 3);
        Due.is(8, "a box without ground", x.says(3, 3), -1);
        Due.is(8, "no cells", x.says(3, 1), 0);
        Due.draw(x, 3, "       #", "#");
        Due.is(8, "first row and first column of two cells", x.says(3, 3), 0);
        Due.draw(x, 3, "########", "########", "########", "########", "########", "########", "########", "########");
        Due.is(8, "the rim", x.says(3, 2), 28);
        Due.is(8, "all", x.says(3, 1), 64);
        x.part(3, 0);
        Due.is(8, "gone: its first part", x.says(3, 4), 4);
        Due.is(8, "gone: its number", x.says(3, 0), 3);
        for (int kind = 1; kind <= 3; kind++) {
            Due.is(8, "gone is under FIELD alone", x.says(3, kind), OTHER);
        }
        Due.is(8, "no shelf", x.says(8, 0), BAD);
        Due.is(8, "no shelf", x.says(-1, 0), BAD);
        Due.is(8, "no kind", x.says(6, 5), BAD);
        Due.is(8, "no kind", x.says(6, -1), BAD);
        Due.is(8, "a row", x.says(6, 0), OTHER);
        Due.is(8, "nothing", x.says(5, 0), NOTHING);
    }
}
