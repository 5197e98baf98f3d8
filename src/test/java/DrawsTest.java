/** Promises 52 to 54: lands that are drawn, what is found of them, and the seed. */
public final class DrawsTest {
    private static final int BAD = -2;
    private static final long WRAP = 1L << 32;

    private long seed = 1;
    private final int[][] found = new int[8][8];

    private DrawsTest() {
    }

    public static void main(String[] args) {
        DrawsTest own = new DrawsTest();
        DeedCourt x = new DeedCourt();
        Due.is(54, "seed", x.status(3), 1);
        // The first draws, by hand: 1103527590 / 65536 = 16838, and 16838 modulo 6 is 2.
        own.compare(x, 1);
        own.compare(x, 2);
        own.compare(x, 100);
        own.compare(x, 37);
        Due.is(54, "seed", x.seed(-5), (int) own.seed);
        own.seed = WRAP - 5;
        own.compare(x, 100);
        Due.is(54, "seed", x.seed(Integer.MIN_VALUE), (int) own.seed);
        Due.is(54, "seed", x.seed(7), Integer.MIN_VALUE);
        bad(x);
        Due.end("DrawsTest");
    }

    private static void bad(DeedCourt x) {
        int sum = x.draw(1);
        for (int n : new int[] {0, 101, -1, Integer.MIN_VALUE}) {
            int seed = x.status(3);
            Due.is(52, "draw bad", x.draw(n), BAD);
            Due.is(52, "nothing is drawn", x.status(3), seed);
        }
        Due.is(52, "what was found stays found", x.draw(1) >= sum ? 1 : 0, 1);
        int[][] bad = {{-1, 0}, {8, 0}, {0, -1}, {0, 8}};
        for (int[] b : bad) {
            Due.is(53, "found bad", x.found(b[0], b[1]), BAD);
        }
        Due.is(60, "BAD", x.status(12), 8);
    }

    private int below(int n) {
        seed = (seed * 1103515245 + 12345) % WRAP;
        return (int) (seed / 65536 % n);
    }

    /** A box: its first and last row, first and last column. */
    private int[] box() {
        int row = below(6);
        int column = below(6);
        int rows = below(3);
        return new int[] {row, row + rows, column, column + below(3)};
    }

    /** The way of two boxes, by their sides alone. */
    private static int way(int[] a, int[] b) {
        boolean rows = a[0] <= b[1] && b[0] <= a[1];
        boolean columns = a[2] <= b[3] && b[2] <= a[3];
        if (!rows || !columns) {
            boolean byRow = columns && (a[1] + 1 == b[0] || b[1] + 1 == a[0]);
            boolean byColumn = rows && (a[3] + 1 == b[2] || b[3] + 1 == a[2]);
            return byRow || byColumn ? 1 : 0;
        }
        boolean isIn = a[0] >= b[0] && a[1] <= b[1] && a[2] >= b[2] && a[3] <= b[3];
        boolean holds = b[0] >= a[0] && b[1] <= a[1] && b[2] >= a[2] && b[3] <= a[3];
        if (isIn && holds) {
            return 7;
        }
        if (isIn) {
            return isFree(a, b) ? 4 : 3;
        }
        if (holds) {
            return isFree(b, a) ? 6 : 5;
        }
        return 2;
    }

    /** Whether a box in another one comes nowhere to a side of that behind which the board goes on. */
    private static boolean isFree(int[] a, int[] b) {
        return (a[0] > b[0] || a[0] == 0) && (a[1] < b[1] || a[1] == 7)
            && (a[2] > b[2] || a[2] == 0) && (a[3] < b[3] || a[3] == 7);
    }

    private void compare(DeedCourt x, int n) {
        for (int i = 0; i < n; i++) {
            int[] a = box();
            int[] b = box();
            int[] c = box();
            found[way(a, b)][way(b, c)] |= 1 << way(a, c);
        }
        int sum = 0;
        for (int[] row : found) {
            for (int set : row) {
                sum += Integer.bitCount(set);
            }
        }
        Due.is(52, "draw(" + n + ")", x.draw(n), sum);
        Due.is(60, "seed", x.status(3), (int) seed);
        for (int i = 0; i < 64; i++) {
            Due.is(53, "found(" + i / 8 + ", " + i % 8 + ")", x.found(i / 8, i % 8), found[i / 8][i % 8]);
        }
    }
}
