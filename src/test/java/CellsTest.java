import java.util.Random;

/** Promises 42 to 45: a land laid out in cells. */
public final class CellsTest {
    private static final int BAD = -2;

    private CellsTest() {
    }

    public static void main(String[] args) {
        pairs();
        beyond();
        stays();
        asTold();
        bad();
        Due.end("CellsTest");
    }

    /** Each cell is told by the fields in which it is, as bits, and 100 times its mate and 100 more. */
    private static void expect(DeedCourt x, int... cells) {
        Due.is(42, "lay", x.lay(0), cells.length);
        for (int c = 0; c < cells.length; c++) {
            int in = 0;
            for (int f = 0; f < x.status(0); f++) {
                in |= x.cell(c, f) << f;
            }
            Due.is(43, "cell " + c, in, cells[c] % 100);
            Due.is(44, "mate " + c, x.mate(c), cells[c] / 100 - 1);
        }
        Due.is(44, "no more cells", x.mate(cells.length), BAD);
    }

    private static int mate(int in, int mate) {
        return in + 100 * (mate + 1);
    }

    private static void pairs() {
        int[][] due = {{1, 2}, {1, 2, mate(1, 3), mate(2, 2)}, {1, 2, 3}, {3, 2, mate(3, 3), mate(0, 2)}, {3, 2},
            {1, 3, mate(3, 3), mate(0, 2)}, {1, 3}, {3, 3}};
        for (int way = 0; way < 8; way++) {
            DeedCourt x = Due.land(2, "0 " + Due.WAYS[way] + " 1");
            Due.is(45, "nothing is laid yet", x.laid(0, 1), -1);
            expect(x, due[way]);
            Due.is(45, "laid", x.laid(0, 1), way);
            Due.is(45, "laid, the other way", 1 << x.laid(1, 0), x.turned(1 << way));
        }
        expect(new DeedCourt());
        expect(Due.land(1), 1);
    }

    private static void beyond() {
        expect(Due.land(3, "0 touch 1", "0 inside 2"), 5, 2, 4, mate(5, 4), mate(6, 3), 6);
        expect(Due.land(3, "0 edge 1", "1 inside 2"), 7, 6, 4, mate(7, 4), mate(4, 3));
        expect(Due.land(3, "1 edge 0", "0 inside 2"), 5, 7, 4, mate(7, 4), mate(4, 3));
        expect(Due.land(3, "0 same 1", "1 edge 2"), 7, 7, 4, mate(7, 4), mate(0, 3), mate(7, 6), mate(0, 5));
        // 0 lies by EDGE to 1, which lies INSIDE 3; both touch 2, which lies OVER 3.
        expect(Due.land(4, "0 edge 1", "0 touch 2", "1 touch 2", "1 inside 3", "2 over 3"), 11, 10, 4, 8,
            mate(11, 5), mate(8, 4), mate(11, 7), mate(12, 6), mate(10, 9), mate(12, 8), 12);
    }

    private static void stays() {
        DeedCourt x = Due.land(2, "0 over 1");
        expect(x, 1, 2, 3);
        Due.deed(x, "0 apart 1");
        Due.is(42, "there is none", x.lay(0), -1);
        Due.is(43, "what was laid stays", x.cell(2, 0) + x.cell(2, 1), 2);
        Due.is(45, "what was laid stays", x.laid(0, 1), 2);
        x.field(0, 0);
        Due.is(43, "a field that came behind it has no cells", x.cell(2, 2), 0);
        Due.is(45, "a field that came behind it has no cells", x.laid(0, 2), -1);
        Due.is(45, "a field that came behind it has no cells", x.laid(2, 0), -1);
        x.drop(0, true);
        expect(x, 1, 2, 4);
        DeedCourt y = Due.land(1);
        y.part(0, 4);
        expect(y, 1, 2, 4);
        Due.is(42, "as of another year: 1 and 2 lie by EDGE in 0", y.lay(4) > 3 ? 1 : 0, 1);
        Due.is(45, "laid", y.laid(1, 0), y.told(1, 0, 4));
    }

    /** By the cells fields lie as they are told. */
    private static void asTold() {
        Random random = new Random(42);
        int lands = 0;
        for (int i = 0; i < 400; i++) {
            int fields = 2 + random.nextInt(9);
            DeedCourt x = Due.land(fields);
            int deeds = random.nextInt(15);
            for (int d = 0; d < deeds; d++) {
                int a = random.nextInt(fields);
                int b = (a + 1 + random.nextInt(fields - 1)) % fields;
                Due.deed(x, a + " " + Due.WAYS[random.nextInt(8)] + " or " + Due.WAYS[3 + random.nextInt(5)] + " " + b);
                if (x.can(0) == 0) {
                    x.drop(d, true);
                }
            }
            if (x.lay(0) > 0) {
                lands++;
                for (int a = 0; a < fields; a++) {
                    for (int b = 0; b < fields; b++) {
                        if (a != b) {
                            Due.is(45, "land " + i + ", laid(" + a + ", " + b + ")", x.laid(a, b), x.told(a, b, 0));
                        }
                    }
                }
            }
        }
        Due.is(42, "most could be laid", lands > 300 ? 1 : 0, 1);
    }

    private static void bad() {
        DeedCourt x = Due.land(2);
        Due.is(43, "nothing is laid yet", x.cell(0, 0), BAD);
        Due.is(44, "nothing is laid yet", x.mate(0), BAD);
        Due.is(42, "lay", x.lay(-1), BAD);
        Due.is(42, "lay", x.lay(1000), BAD);
        Due.is(42, "lay", x.lay(999), 2);
        int[][] cells = {{-1, 0}, {2, 0}, {0, -1}, {0, 2}};
        for (int[] c : cells) {
            Due.is(43, "cell bad", x.cell(c[0], c[1]), BAD);
        }
        Due.is(44, "mate bad", x.mate(-1), BAD);
        Due.is(44, "mate bad", x.mate(2), BAD);
        int[][] two = {{0, 0}, {1, 1}, {-1, 0}, {0, -1}, {2, 0}, {0, 2}};
        for (int[] t : two) {
            Due.is(45, "laid bad", x.laid(t[0], t[1]), BAD);
        }
        Due.is(60, "BAD", x.status(12), 16);
    }
}
