/** The boundaries that promises 19 to 24 name: sets of WAYS, and SETS AS OF a YEAR, said and SHRUNK. */
public final class WaysEdgesTest {
    private static final int NONE = Due.NONE;
    private static final int BAD = Due.BAD;

    private WaysEdgesTest() {
    }

    public static void main(String[] args) {
        turned();
        three();
        follow();
        fieldNumbers();
        years();
        partYears();
        allAndNone();
        whateverYear();
        fewFields();
        emptySets();
        manyFields();
        eachPair();
        Due.end("WaysEdgesTest");
    }

    /** "a set 1 to 255". */
    private static void turned() {
        DeedCourt x = new DeedCourt();
        Due.is(19, "0", x.turned(0), BAD);
        Due.is(19, "the least", x.turned(1), 1);
        Due.is(19, "the greatest", x.turned(255), 255);
        Due.is(19, "256", x.turned(256), BAD);
        Due.is(19, "257", x.turned(257), BAD);
        Due.is(19, "EDGE is ROUND", x.turned(8), 32);
        Due.is(19, "INSIDE is HOLDS", x.turned(16), 64);
        Due.is(19, "SAME alone", x.turned(128), 128);
        Due.is(19, "all but ROUND", x.turned(255 - 32), 255 - 8);
        Due.is(60, "BAD", x.status(12), 3);
        DeedCourt y = new DeedCourt();
        for (int set = 1; set <= 255; set++) {
            Due.is(19, "turned twice", y.turned(y.turned(set)), set);
        }
    }

    /** "WAYS 0 to 7". */
    private static void three() {
        DeedCourt x = new DeedCourt();
        Due.is(20, "the first and the first", x.three(0, 0), 255);
        Due.is(20, "the first and the last", x.three(0, 7), 1);
        Due.is(20, "the last and the first", x.three(7, 0), 1);
        Due.is(20, "the last and the last", x.three(7, 7), 128);
        Due.is(20, "way -1", x.three(-1, 7), BAD);
        Due.is(20, "way 8", x.three(8, 0), BAD);
        Due.is(20, "other -1", x.three(1, -1), BAD);
        Due.is(20, "other 8", x.three(0, 8), BAD);
        for (int way = 0; way < 8; way++) {
            Due.is(20, "SAME is as if it weren't there", x.three(way, 7), 1 << way);
            Due.is(20, "SAME is as if it weren't there", x.three(7, way), 1 << way);
            for (int other = 0; other < 8; other++) {
                int turned = x.three(turn(x, other), turn(x, way));
                Due.is(20, "TURNED it is the same", x.turned(turned), x.three(way, other));
            }
        }
    }

    private static int turn(DeedCourt x, int way) {
        return Integer.numberOfTrailingZeros(x.turned(1 << way));
    }

    private static void follow() {
        DeedCourt x = new DeedCourt();
        Due.is(21, "the least two", x.follow(1, 1), 255);
        Due.is(21, "the greatest two", x.follow(255, 255), 255);
        Due.is(21, "SAME alone, twice", x.follow(128, 128), 128);
        Due.is(21, "set 0", x.follow(0, 255), BAD);
        Due.is(21, "set 256", x.follow(256, 255), BAD);
        Due.is(21, "other 0", x.follow(255, 0), BAD);
        Due.is(21, "other 256", x.follow(255, 256), BAD);
        Due.is(60, "BAD", x.status(12), 4);
        DeedCourt y = new DeedCourt();
        DeedCourt z = new DeedCourt();
        for (int set = 1; set <= 255; set++) {
            Due.is(21, "by SAME the set", y.follow(set, 128), set);
            Due.is(21, "by SAME the set", y.follow(128, set), set);
            Due.is(21, "by all WAYS all", z.follow(set, 255), 255);
            Due.is(21, "by all WAYS all", z.follow(255, set), 255);
        }
    }

    private static void fieldNumbers() {
        DeedCourt x = Due.land(10, "0 edge 9", "8 holds 9");
        Due.is(22, "the first to the last", x.ways(0, 9, 0), 8);
        Due.is(22, "the last to the first", x.ways(9, 0, 0), 32);
        Due.is(22, "the last but one to the last", x.ways(8, 9, 0), 64);
        Due.is(24, "the first to the last", x.known(0, 9, 0), 8);
        // 9 lies INSIDE 8, and 0 by EDGE to 9: INSIDE 8, too.
        Due.is(24, "it follows", x.known(0, 8, 0), 16);
        for (int f : new int[] {-1, 10}) {
            Due.is(22, "no FIELD", x.ways(f, 0, 0), BAD);
            Due.is(22, "no FIELD", x.ways(0, f, 0), BAD);
            Due.is(24, "no FIELD", x.known(f, 0, 0), BAD);
            Due.is(24, "no FIELD", x.known(0, f, 0), BAD);
        }
        for (int f = 0; f < 10; f++) {
            Due.is(22, "a and itself, too", x.ways(f, f, 0), BAD);
            Due.is(24, "a and itself, too", x.known(f, f, 0), BAD);
        }
    }

    /** "AS OF a YEAR y: DEEDS that aren't DROPPED, of y or ahead of it." */
    private static void years() {
        for (int year : new int[] {0, 1, 500, 998, 999}) {
            DeedCourt x = Due.land(2, "0 over 1 year " + year);
            if (year > 0) {
                Due.is(22, "the year ahead of it", x.ways(0, 1, year - 1), 255);
                Due.is(24, "the year ahead of it", x.known(0, 1, year - 1), 255);
            }
            Due.is(22, "its own YEAR", x.ways(0, 1, year), 4);
            Due.is(24, "its own YEAR", x.known(0, 1, year), 4);
            if (year < 999) {
                Due.is(22, "the year behind it", x.ways(0, 1, year + 1), 4);
            }
            Due.is(22, "YEAR -1", x.ways(0, 1, -1), BAD);
            Due.is(22, "YEAR 1000", x.ways(0, 1, 1000), BAD);
            Due.is(24, "YEAR -1", x.known(0, 1, -1), BAD);
            Due.is(24, "YEAR 1000", x.known(0, 1, 1000), BAD);
            Due.is(23, "YEAR -1", x.shrink(-1), BAD);
            Due.is(23, "YEAR 1000", x.shrink(1000), BAD);
            x.drop(0, true);
            Due.is(22, "it is DROPPED", x.ways(0, 1, 999), 255);
        }
    }

    /** "less, of a FIELD parted in y or ahead of it: ..". */
    private static void partYears() {
        for (int year : new int[] {0, 1, 998, 999}) {
            DeedCourt x = new DeedCourt();
            x.field(0, 0);
            x.part(0, year);
            int[][] due = {{1, 0, 24}, {2, 0, 24}, {0, 1, 96}, {0, 2, 96}, {1, 2, 3}, {2, 1, 3}};
            for (int[] d : due) {
                if (year > 0) {
                    Due.is(22, "the year ahead of it", x.ways(d[0], d[1], year - 1), 255);
                }
                Due.is(22, "its own YEAR", x.ways(d[0], d[1], year), d[2]);
                Due.is(22, "the last YEAR", x.ways(d[0], d[1], 999), d[2]);
            }
            Due.is(23, "it is SHRUNK already", x.shrink(year), 0);
        }
        // What is said and what was parted are less together.
        DeedCourt x = Due.land(1);
        x.part(0, 5);
        Due.deed(x, "1 not edge 0");
        Due.deed(x, "2 touch or over 1");
        Due.is(22, "of EDGE and INSIDE", x.ways(1, 0, 5), 16);
        Due.is(22, "of APART and TOUCH", x.ways(1, 2, 5), 2);
        Due.is(22, "ahead of that YEAR", x.ways(1, 2, 4), 6);
        // A part that is parted, too: the YEARS are each one's own.
        DeedCourt y = Due.land(1);
        y.part(0, 5);
        y.part(1, 9);
        Due.is(22, "parted in 5", y.ways(1, 0, 8), 24);
        Due.is(22, "not yet", y.ways(3, 1, 8), 255);
        Due.is(22, "parted in 9", y.ways(3, 1, 9), 24);
        Due.is(22, "said of its own parts alone", y.ways(3, 0, 9), 255);
        Due.is(24, "it follows: EDGE or INSIDE", y.known(3, 0, 9), 24);
        Due.is(24, "it follows: APART or TOUCH", y.known(3, 2, 9), 3);
    }

    /** "each two FIELDS have all WAYS, less what DEEDS don't let": all, one, none. */
    private static void allAndNone() {
        DeedCourt x = Due.land(2, "0 apart or touch or over or edge or inside or round or holds or same 1");
        Due.is(22, "all", x.ways(0, 1, 0), 255);
        Due.deed(x, "0 not apart 1 year 1");
        Due.is(22, "all but one", x.ways(0, 1, 1), 254);
        Due.deed(x, "1 same 0 year 2");
        Due.is(22, "one", x.ways(0, 1, 2), 128);
        Due.is(24, "one", x.known(0, 1, 2), 128);
        Due.deed(x, "1 not same 0 year 3");
        Due.is(22, "none", x.ways(0, 1, 3), 0);
        Due.is(22, "none, TURNED", x.ways(1, 0, 3), 0);
        Due.is(24, "none", x.known(0, 1, 3), 0);
        Due.is(23, "one is empty", x.shrink(3), NONE);
        Due.is(23, "none is empty", x.shrink(2), 0);
    }

    /** "(of whatever YEAR)": a FIELD that isn't yet lies to the others, too. */
    private static void whateverYear() {
        DeedCourt x = new DeedCourt();
        x.field(0, 999);
        x.field(0, 500);
        Due.deed(x, "0 same 1");
        Due.is(22, "ahead of both", x.ways(0, 1, 0), 128);
        Due.is(24, "ahead of both", x.known(0, 1, 0), 128);
    }

    private static void fewFields() {
        Due.is(23, "no FIELDS, no PAIRS", new DeedCourt().shrink(0), 0);
        Due.is(23, "no FIELDS", new DeedCourt().shrink(999), 0);
        DeedCourt one = Due.land(1);
        Due.is(23, "one FIELD, no PAIRS", one.shrink(0), 0);
        Due.is(22, "one FIELD and itself", one.ways(0, 0, 0), BAD);
        Due.is(22, "one FIELD", one.ways(0, 1, 0), BAD);
        Due.is(24, "one FIELD and itself", one.known(0, 0, 0), BAD);
        Due.is(23, "two FIELDS, of which nothing is said", Due.land(2).shrink(0), 0);
        Due.is(23, "two FIELDS: a PAIR alone is never SHRUNK", Due.land(2, "0 over 1").shrink(0), 0);
        Due.is(23, "three FIELDS: nothing follows of one", Due.land(3, "0 inside 1").shrink(0), 0);
        Due.is(23, "three FIELDS: the third PAIR", Due.land(3, "0 inside 1", "1 inside 2").shrink(0), 1);
        Due.is(23, "said already", Due.land(3, "0 inside 1", "1 inside 2", "0 inside 2").shrink(0), 0);
    }

    /** "NONE: one is empty then", "(0, also if another one is empty)". */
    private static void emptySets() {
        DeedCourt x = Due.land(3, "0 inside 1", "1 inside 2", "0 not inside 2 year 1");
        Due.is(23, "none is empty", x.shrink(0), 1);
        Due.is(23, "one is empty when all is SHRUNK", x.shrink(1), NONE);
        Due.is(24, "so each is 0", x.known(0, 1, 1) + x.known(1, 2, 1) + x.known(0, 2, 1), 0);
        Due.is(24, "ahead of it none is", x.known(0, 2, 0), 16);
        DeedCourt far = Due.land(10, "8 over 9", "9 edge 8");
        Due.is(22, "an empty one far from the others", far.ways(8, 9, 0), 0);
        Due.is(22, "the others have all", far.ways(0, 1, 0), 255);
        Due.is(24, "0, also if another one is empty", far.known(0, 1, 0), 0);
        Due.is(23, "one is empty", far.shrink(0), NONE);
    }

    /** "Of how many PAIRS the SET SHRUNK has fewer WAYS": each of the 45 alone, to the first and to the last. */
    private static void eachPair() {
        for (int b = 1; b < 10; b++) {
            for (int a = 0; a < b; a++) {
                int c = a > 0 ? 0 : b > 1 ? 1 : 2;
                DeedCourt x = Due.land(10, a + " inside " + c, c + " inside " + b);
                Due.is(23, "of " + a + " and " + b + " alone", x.shrink(0), 1);
                Due.is(22, "nothing is said of these", x.ways(a, b, 0), 255);
                Due.is(24, "it follows", x.known(a, b, 0), 16);
                Due.is(24, "it follows, TURNED", x.known(b, a, 0), 64);
            }
        }
    }

    /** Of ten FIELDS, 45 PAIRS: what follows along all of them. */
    private static void manyFields() {
        DeedCourt x = Due.land(10);
        for (int f = 0; f < 9; f++) {
            Due.deed(x, f + " inside " + (f + 1) + " year " + f);
        }
        Due.is(23, "the 36 PAIRS that aren't said", x.shrink(8), 36);
        Due.is(24, "the first to the last", x.known(0, 9, 8), 16);
        Due.is(24, "the last to the first", x.known(9, 0, 8), 64);
        Due.is(23, "of nine of them", x.shrink(7), 28);
        Due.is(24, "the last isn't bound yet", x.known(0, 9, 7), 255);
        Due.deed(x, "9 inside 0 year 9");
        Due.is(23, "round: one is empty", x.shrink(9), NONE);
        DeedCourt y = Due.land(10);
        for (int f = 9; f > 0; f--) {
            Due.deed(y, f + " same " + (f - 1));
        }
        Due.is(23, "the 36 PAIRS that aren't said", y.shrink(0), 36);
        Due.is(24, "all are the SAME", y.known(0, 9, 0), 128);
        Due.deed(y, "0 not same 9");
        Due.is(23, "but the first and the last", y.shrink(0), NONE);
    }
}
