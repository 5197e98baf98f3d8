/** Promises 19 to 24: ways, what follows from them, and the sets that deeds leave. */
public final class WaysTest {
    private static final int BAD = -2;
    private static final int[][] THREE = {
        {255, 31, 31, 31, 31, 1, 1, 1}, {103, 175, 31, 30, 28, 3, 1, 2}, {103, 103, 255, 28, 28, 103, 103, 4},
        {1, 3, 31, 24, 16, 175, 103, 8}, {1, 1, 31, 16, 16, 31, 255, 16}, {103, 102, 100, 172, 28, 96, 64, 32},
        {103, 100, 100, 100, 252, 64, 64, 64}, {1, 2, 4, 8, 16, 32, 64, 128}};

    private WaysTest() {
    }

    public static void main(String[] args) {
        turned();
        three();
        follow();
        deedsAndParts();
        ways();
        known();
        Due.end("WaysTest");
    }

    private static void turned() {
        DeedCourt x = new DeedCourt();
        int[] turn = {1, 2, 4, 32, 64, 8, 16, 128};
        for (int set = 1; set <= 255; set++) {
            int due = 0;
            for (int way = 0; way < 8; way++) {
                due |= (set & 1 << way) != 0 ? turn[way] : 0;
            }
            Due.is(19, "turned(" + set + ")", x.turned(set), due);
        }
        for (int bad : new int[] {0, 256, -1, 512, Integer.MIN_VALUE}) {
            Due.is(19, "turned(" + bad + ")", x.turned(bad), BAD);
        }
    }

    private static void three() {
        DeedCourt x = new DeedCourt();
        for (int way = 0; way < 8; way++) {
            for (int other = 0; other < 8; other++) {
                Due.is(20, "three(" + way + ", " + other + ")", x.three(way, other), THREE[way][other]);
            }
        }
        int[][] bad = {{-1, 0}, {8, 0}, {0, -1}, {0, 8}};
        for (int[] b : bad) {
            Due.is(20, "three(" + b[0] + ", " + b[1] + ")", x.three(b[0], b[1]), BAD);
        }
        Due.is(60, "BAD", x.status(12), 4);
    }

    private static void follow() {
        for (int set = 1; set <= 255; set++) {
            DeedCourt x = new DeedCourt();
            for (int other = 1; other <= 255; other++) {
                int due = 0;
                for (int way = 0; way < 64; way++) {
                    if ((set & 1 << way / 8) != 0 && (other & 1 << way % 8) != 0) {
                        due |= THREE[way / 8][way % 8];
                    }
                }
                Due.is(21, "follow(" + set + ", " + other + ")", x.follow(set, other), due);
            }
        }
        DeedCourt x = new DeedCourt();
        int[][] bad = {{0, 1}, {256, 1}, {1, 0}, {1, 256}, {-1, 1}, {1, -1}};
        for (int[] b : bad) {
            Due.is(21, "follow(" + b[0] + ", " + b[1] + ")", x.follow(b[0], b[1]), BAD);
        }
    }

    private static void deedsAndParts() {
        DeedCourt x = Due.land(3, "0 edge or inside 1 year 5", "1 round or same 0 year 7", "0 north 2 year 999");
        Due.is(22, "ahead of the deed", x.ways(0, 1, 4), 255);
        Due.is(22, "from its year on", x.ways(0, 1, 5), 24);
        Due.is(22, "the other way", x.ways(1, 0, 5), 96);
        Due.is(22, "by two deeds", x.ways(0, 1, 7), 8);
        Due.is(22, "the other way", x.ways(1, 0, 7), 32);
        Due.is(22, "no deed", x.ways(1, 2, 999), 255);
        Due.is(22, "north", x.ways(0, 2, 999), 3);
        Due.is(22, "north", x.ways(0, 2, 998), 255);
        x.drop(0, true);
        Due.is(22, "without the dropped one", x.ways(0, 1, 7), 136);
        DeedCourt y = Due.land(2, "0 east 1", "1 larger 0 year 1");
        Due.is(22, "east", y.ways(0, 1, 0), 103);
        Due.is(22, "east, the other way", y.ways(1, 0, 0), 31);
        Due.is(22, "and larger", y.ways(1, 0, 1), 7);
        DeedCourt z = new DeedCourt();
        z.field(1, 900);
        z.part(0, 950);
        Due.is(22, "ahead of the parting", z.ways(1, 0, 949), 255);
        Due.is(22, "ahead of the parting", z.ways(1, 2, 949), 255);
        Due.is(22, "a part to the whole", z.ways(1, 0, 950), 24);
        Due.is(22, "the other part", z.ways(2, 0, 950), 24);
        Due.is(22, "the whole to a part", z.ways(0, 2, 950), 96);
        Due.is(22, "the parts", z.ways(1, 2, 999), 3);
    }

    private static void ways() {
        DeedCourt x = Due.land(2);
        int[][] bad = {{0, 0, 0}, {1, 1, 0}, {-1, 0, 0}, {0, 2, 0}, {2, 0, 0}, {0, -1, 0}, {0, 1, -1}, {0, 1, 1000}};
        for (int[] b : bad) {
            Due.is(22, "ways bad", x.ways(b[0], b[1], b[2]), BAD);
            Due.is(24, "known bad", x.known(b[0], b[1], b[2]), BAD);
        }
        Due.is(23, "shrink bad", x.shrink(-1), BAD);
        Due.is(23, "shrink bad", x.shrink(1000), BAD);
        Due.is(60, "BAD", x.status(12), 2 * bad.length + 2);
    }

    private static void known() {
        DeedCourt x = Due.land(4, "0 inside 1", "1 inside 2 year 1", "2 apart 0 year 2", "3 touch 2 year 1");
        Due.is(23, "nothing follows", x.shrink(0), 0);
        Due.is(24, "known", x.known(0, 1, 0), 16);
        Due.is(24, "known", x.known(0, 2, 0), 255);
        Due.is(22, "nothing is said of 0 and 2", x.ways(0, 2, 1), 255);
        Due.is(23, "of 02, 03 and 13 it follows", x.shrink(1), 3);
        Due.is(24, "known", x.known(0, 2, 1), 16);
        Due.is(24, "known", x.known(2, 0, 1), 64);
        Due.is(24, "known", x.known(1, 3, 1), 1);
        Due.is(24, "known", x.known(3, 0, 1), 1);
        Due.is(24, "known", x.known(2, 3, 1), 2);
        Due.is(23, "one is empty", x.shrink(2), -1);
        Due.is(22, "by deeds none is empty", x.ways(0, 2, 2), 1);
        for (int b = 1; b < 4; b++) {
            Due.is(24, "all are 0 then", x.known(b, 0, 2), 0);
        }
        DeedCourt y = Due.land(5, "0 apart 1", "1 over 0");
        Due.is(23, "one is empty at once", y.shrink(0), -1);
        Due.is(24, "so all are 0", y.known(3, 4, 0), 0);
        Due.is(22, "though these have all", y.ways(3, 4, 0), 255);
        DeedCourt z = Due.land(2, "0 apart 1");
        Due.is(23, "a pair", z.shrink(0), 0);
        Due.is(24, "a pair", z.known(1, 0, 0), 1);
        Due.deed(z, "0 over 1");
        Due.is(23, "a pair, empty", z.shrink(0), -1);
        Due.is(24, "a pair, empty", z.known(1, 0, 0), 0);
        Due.is(23, "no fields", new DeedCourt().shrink(0), 0);
    }
}
