/** The boundaries that promises 52 to 54 name: how many lands are drawn, what was FOUND, a SEED that wraps. */
public final class DrawsEdgesTest {
    private static final int BAD = Due.BAD;

    private DrawsEdgesTest() {
    }

    public static void main(String[] args) {
        numbers();
        wraps();
        lands();
        found();
        adds();
        Due.end("DrawsEdgesTest");
    }

    /** "n lands (1 to 100)". */
    private static void numbers() {
        DeedCourt x = new DeedCourt();
        Due.is(52, "0", x.draw(0), BAD);
        Due.is(52, "101", x.draw(101), BAD);
        Due.is(52, "-1", x.draw(-1), BAD);
        Due.is(54, "nothing was drawn", x.seed(1), 1);
        Due.is(53, "nothing yet", x.found(0, 0), 0);
        Due.is(52, "the first land", x.draw(1), 1);
        DeedCourt y = new DeedCourt();
        int all = y.draw(100);
        for (int i = 0; i < 99; i++) {
            x.draw(1);
        }
        Due.is(60, "a hundred by one each: the same SEED", x.status(3), y.status(3));
        Due.is(52, "a hundred by one each: as many are FOUND", sum(x), all);
        Due.is(60, "BAD", x.status(12), 3);
    }

    private static int sum(DeedCourt x) {
        int sum = 0;
        for (int i = 0; i < 64; i++) {
            sum += Integer.bitCount(x.found(i / 8, i % 8));
        }
        return sum;
    }

    /** "SEED (1 at first) becomes SEED times 1103515245, and 12345 (an int, wrapping)": twelve times for a land. */
    private static void wraps() {
        for (int seed : new int[] {1, 0, -1, 2, 12345, Integer.MIN_VALUE, Integer.MAX_VALUE, 1 << 16, -1 << 16}) {
            DeedCourt x = new DeedCourt();
            Due.is(54, "the one ahead", x.seed(seed), 1);
            Due.is(60, "SEED", x.status(3), seed);
            Due.is(52, "a land", x.draw(1), 1);
            long due = seed & 0xFFFFFFFFL;
            for (int i = 0; i < 12; i++) {
                due = (due * 1103515245 + 12345) & 0xFFFFFFFFL;
            }
            Due.is(60, "SEED, twelve DRAWS behind " + seed, x.status(3), (int) due);
            Due.is(54, "the one ahead", x.seed(seed), (int) due);
        }
    }

    /**
     * "its upper 16 bits, no sign, modulo n": for each SEED the three boxes by hand (first row, first column, how many
     * rows more, how many columns more), and what they are FOUND for.
     */
    private static void lands() {
        for (int seed = -40; seed <= 40; seed++) {
            land(seed * 53000111);
        }
        // Here the first box, the second, the third ends in row 7, or in column 7, and by one less lay otherwise.
        for (int seed : new int[] {213, 138, 89, 5, 419, 722}) {
            land(seed);
        }
    }

    private static void land(int seed) {
        long now = seed & 0xFFFFFFFFL;
        int[][] boxes = new int[3][4];
        int[] below = {6, 6, 3, 3};
        for (int[] box : boxes) {
            for (int i = 0; i < 4; i++) {
                now = (now * 1103515245 + 12345) & 0xFFFFFFFFL;
                box[i] = (int) ((now >> 16) % below[i]);
            }
        }
        DeedCourt ways = Due.land(3);
        for (int f = 0; f < 3; f++) {
            ways.row(0, 4, 64);
            for (int r = boxes[f][0]; r <= boxes[f][0] + boxes[f][2]; r++) {
                for (int c = boxes[f][1]; c <= boxes[f][1] + boxes[f][3]; c++) {
                    Due.is(52, "as far as the board goes", r < 8 && c < 8 ? 1 : 0, 1);
                    ways.set(0, 8 * r + c, 1);
                }
            }
            ways.ground(f, 0);
        }
        DeedCourt x = new DeedCourt();
        x.seed(seed);
        Due.is(52, "one land", x.draw(1), 1);
        Due.is(53, "of SEED " + seed, x.found(ways.lies(0, 1), ways.lies(1, 2)), 1 << ways.lies(0, 2));
    }

    /** "What is FOUND for two WAYS (bits; 0: nothing yet). BAD." */
    private static void found() {
        DeedCourt x = new DeedCourt();
        for (int i = 0; i < 64; i++) {
            Due.is(53, "nothing yet", x.found(i / 8, i % 8), 0);
        }
        Due.is(53, "way -1", x.found(-1, 0), BAD);
        Due.is(53, "way 8", x.found(8, 0), BAD);
        Due.is(53, "other -1", x.found(0, -1), BAD);
        Due.is(53, "other 8", x.found(0, 8), BAD);
        DeedCourt y = new DeedCourt();
        int all = 0;
        for (int i = 0; i < 100; i++) {
            all = y.draw(100);
        }
        Due.is(52, "how many in all", sum(y), all);
        for (int i = 0; i < 64; i++) {
            Due.is(53, "no more than THREE has", y.found(i / 8, i % 8) & ~y.three(i / 8, i % 8), 0);
        }
        Due.is(53, "the first two: nearly all", y.found(0, 0), 255);
        Due.is(53, "by SAME the way alone", y.found(0, 7), 1);
    }

    /** "by now": what was FOUND stays, whatever the SEED; the same land isn't more. */
    private static void adds() {
        DeedCourt x = new DeedCourt();
        Due.is(52, "a land", x.draw(1), 1);
        x.seed(1);
        Due.is(52, "the same one", x.draw(1), 1);
        int ten = x.draw(10);
        x.seed(1);
        Due.is(52, "the same ones", x.draw(10), ten);
        Due.is(52, "a bad one draws nothing", x.draw(101), BAD);
        x.seed(1);
        Due.is(52, "by now", x.draw(1), ten);
    }
}
