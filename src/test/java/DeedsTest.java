/** Promises 12 to 18: the tape, how deeds are read from it, and what they say. */
public final class DeedsTest {
    private static final int BAD = -2;
    private static final int FULL = -6;

    private DeedsTest() {
    }

    public static void main(String[] args) {
        tape();
        read();
        faults();
        full();
        words();
        changes();
        Due.end("DeedsTest");
    }

    private static void tape() {
        DeedCourt x = Due.land(2);
        Due.is(12, "feed", x.feed('0' << 8 | ' ', 2), 2);
        Due.is(12, "feed", x.feed('o' << 24 | 'v' << 16 | 'e' << 8 | 'r', 4), 6);
        Due.is(12, "feed, lowest bytes alone", x.feed(0x7F000000 | ' ' << 16 | ' ' << 8 | '1', 3), 9);
        Due.is(60, "the tape's size", x.status(2), 9);
        Due.is(14, "deed", x.deed(), 0);
        Due.is(14, "the tape is empty then", x.status(2), 0);
        Due.is(12, "no byte", x.feed(65, 0), BAD);
        Due.is(12, "five bytes", x.feed(65, 5), BAD);
        Due.is(12, "feed", x.feed(65, -1), BAD);
        for (int i = 0; i < 19; i++) {
            x.feed(65, 4);
        }
        Due.is(12, "feed", x.feed(65, 3), 79);
        Due.is(12, "one too many", x.feed(65, 2), FULL);
        Due.is(12, "bad ahead of full", x.feed(65, 5), BAD);
        Due.is(12, "feed", x.feed(65, 1), 80);
        Due.is(12, "full", x.feed(65, 1), FULL);
        Due.is(13, "wipe", x.wipe(), 80);
        Due.is(13, "wipe again", x.wipe(), 0);
        Due.is(60, "FULL", x.status(16), 2);
        Due.is(60, "BAD", x.status(12), 4);
        String wide = "0 apart";
        while (wide.length() < 79) {
            wide += " ";
        }
        Due.is(14, "a tape that is full", Due.deed(x, wide + "1"), 1);
    }

    private static void expect(DeedCourt x, String text, int... due) {
        int number = x.status(1);
        Due.is(14, "deed() of \"" + text + "\"", Due.deed(x, text), number);
        for (int what = 0; what < due.length; what++) {
            Due.is(15, "\"" + text + "\": " + what, x.deedOf(number, what), due[what]);
        }
    }

    private static void read() {
        DeedCourt x = Due.land(10);
        expect(x, "0 apart 1", 0, 1, 0, 1, -1, 1, 0);
        expect(x, "9 touch 3 year 999 weight 99", 9, 3, 999, 99, -1, 2, 0);
        expect(x, "1over0", 1, 0, 0, 1, -1, 4, 0);
        expect(x, "   2  edge   1  year   0  ", 2, 1, 0, 1, -1, 8, 0);
        expect(x, "0 inside 1 weight 7", 0, 1, 0, 7, -1, 16, 0);
        expect(x, "0 round 1", 0, 1, 0, 1, -1, 32, 0);
        expect(x, "0 holds 1", 0, 1, 0, 1, -1, 64, 0);
        expect(x, "0 same 1", 0, 1, 0, 1, -1, 128, 0);
        expect(x, "0 within 1", 0, 1, 0, 1, -1, 24, 0);
        expect(x, "0 not within 1", 0, 1, 0, 1, -1, 231, 0);
        expect(x, "0 apart or touch or same 1", 0, 1, 0, 1, -1, 131, 0);
        expect(x, "0 not apart or apart or over 1", 0, 1, 0, 1, -1, 250, 0);
        expect(x, "0not apart or touch or over or within or round or holds or same 1", 0, 1, 0, 1, -1, 0, 0);
        expect(x, "0 north 1", 0, 1, 0, 1, 0, 3, 0);
        expect(x, "0 east 1 year 5", 0, 1, 5, 1, 1, 103, 0);
        expect(x, "0larger1year007weight009", 0, 1, 7, 9, 2, 103, 0);
        expect(x, "007 old 0 or old003 009", 7, 9, 0, 1, -1, 255, 0);
        Due.is(15, "no deed", x.deedOf(17, 0), BAD);
        Due.is(15, "no deed", x.deedOf(-1, 0), BAD);
        Due.is(15, "nothing of that number", x.deedOf(0, 7), BAD);
        Due.is(15, "nothing of that number", x.deedOf(0, -1), BAD);
    }

    private static void fault(DeedCourt x, String text, int place) {
        int bad = x.status(12);
        Due.is(14, "fault of \"" + text + "\"", Due.deed(x, text), -20 - place);
        Due.is(60, "a fault is BAD", x.status(12), bad + 1);
        Due.is(14, "the tape is empty then", x.status(2), 0);
        Due.is(14, "no deed comes of it", x.status(1), 0);
    }

    private static void faults() {
        DeedCourt x = Due.land(3);
        fault(x, "", 0);
        fault(x, "   ", 3);
        fault(x, "apart", 0);
        fault(x, " 3 apart 0", 1);
        fault(x, "0000 apart 1", 0);
        fault(x, "0", 1);
        fault(x, "0 ", 2);
        fault(x, "0 1", 2);
        fault(x, "0 aparts 1", 2);
        fault(x, "0 apar 1", 2);
        fault(x, "0 Apart 1", 2);
        fault(x, "0 a`part 1", 2);
        fault(x, "0 apart{ 1", 7);
        fault(x, "0 or apart 1", 2);
        fault(x, "0 not not apart 1", 6);
        fault(x, "0 not north 1", 6);
        fault(x, "0 apart or north 1", 11);
        fault(x, "0 apart or not over 1", 11);
        fault(x, "0 north or apart 1", 8);
        fault(x, "0 apart or 1", 11);
        fault(x, "0 apart or", 10);
        fault(x, "0 apart over 1", 8);
        fault(x, "0 old 1", 7);
        fault(x, "0 old 4 1", 6);
        fault(x, "0 old apart 1", 6);
        fault(x, "0 old", 5);
        fault(x, "0 apart", 7);
        fault(x, "0 apart 0", 8);
        fault(x, "0 apart 00", 8);
        fault(x, "0 apart 3", 8);
        fault(x, "0 apart year 3", 8);
        fault(x, "0 apart 1 2", 10);
        fault(x, "0 apart 1 years 2", 10);
        fault(x, "0 apart 1 year", 14);
        fault(x, "0 apart 1 year  ", 16);
        fault(x, "0 apart 1 year 1000", 15);
        fault(x, "0 apart 1 year 0001", 15);
        fault(x, "0 apart 1 year weight 3", 15);
        fault(x, "0 apart 1 year 3 year 3", 17);
        fault(x, "0 apart 1 weight 3 year 3", 19);
        fault(x, "0 apart 1 weight 0", 17);
        fault(x, "0 apart 1 weight 100", 17);
        fault(x, "0 apart 1 weight", 16);
        fault(x, "0 apart 1 weight 3 weight 3", 19);
        fault(x, "0 apart 1 weight 3.", 18);
        fault(x, "0 apart\t1", 7);
        fault(x, "0 apart 1 \u0080", 10);
        fault(x, "0 apart 1 \u00f1", 10);
        fault(x, "\0", 0);
        DeedCourt y = new DeedCourt();
        Due.is(14, "no field", Due.deed(y, "0 apart 1"), -20);
    }

    private static void full() {
        DeedCourt x = Due.land(2);
        for (int d = 0; d < 24; d++) {
            Due.is(14, "deed", Due.deed(x, "0 apart 1"), d);
        }
        Due.is(14, "full", Due.deed(x, "0 apart 1"), FULL);
        Due.is(14, "the tape stays", x.status(2), 9);
        Due.is(14, "full ahead of a fault", Due.deed(x, "?"), FULL);
        Due.is(60, "FULL", x.status(16), 2);
        Due.is(60, "deeds", x.status(1), 24);
    }

    private static void words() {
        DeedCourt x = Due.land(2, "0 old 1 1", "0 not old 1 1", "0 old 1 or touch 1", "0 not old 1 or old 2 1");
        int[] due = {255, 255, 255, 255};
        int[] one = {16, 239, 18, 255};
        int[] both = {16, 239, 18, 255 - 16 - 4};
        for (int d = 0; d < 4; d++) {
            Due.is(15, "lets", x.deedOf(d, 5), due[d]);
        }
        Due.is(18, "mean", x.mean(1, 4), -1);
        for (int d = 0; d < 4; d++) {
            Due.is(15, "lets", x.deedOf(d, 5), one[d]);
        }
        Due.is(18, "mean", x.mean(2, 2), -1);
        for (int d = 0; d < 4; d++) {
            Due.is(15, "lets", x.deedOf(d, 5), both[d]);
        }
        Due.is(18, "mean", x.mean(1, 0), 4);
        Due.is(15, "lets", x.deedOf(0, 5), 1);
        Due.is(22, "by what it means now", x.ways(0, 1, 0), 0);
        Due.is(18, "mean nothing", x.mean(1, -1), 0);
        Due.is(15, "lets", x.deedOf(0, 5), 255);
        Due.is(18, "mean", x.mean(1, 7), -1);
        Due.is(18, "mean", x.mean(1, 7), 7);
        int[][] bad = {{-1, 0}, {4, 0}, {0, -2}, {0, 8}};
        for (int[] b : bad) {
            Due.is(18, "mean bad", x.mean(b[0], b[1]), BAD);
        }
    }

    private static void changes() {
        DeedCourt x = Due.land(2, "0 apart 1 weight 5", "0 over 1");
        Due.is(16, "drop", x.drop(0, true), 0);
        Due.is(16, "drop again", x.drop(0, true), 1);
        Due.is(15, "dropped", x.deedOf(0, 6), 1);
        Due.is(15, "the other isn't", x.deedOf(1, 6), 0);
        Due.is(22, "without it", x.ways(0, 1, 0), 4);
        Due.is(16, "take it again", x.drop(0, false), 1);
        Due.is(16, "and again", x.drop(0, false), 0);
        Due.is(22, "with it", x.ways(0, 1, 0), 0);
        Due.is(17, "weigh", x.weigh(0, 99), 5);
        Due.is(17, "weigh", x.weigh(0, 1), 99);
        Due.is(15, "weight", x.deedOf(0, 3), 1);
        Due.is(17, "weigh", x.weigh(0, 0), BAD);
        Due.is(17, "weigh", x.weigh(0, 100), BAD);
        Due.is(17, "no deed", x.weigh(2, 1), BAD);
        Due.is(17, "no deed", x.weigh(-1, 1), BAD);
        Due.is(16, "no deed", x.drop(2, true), BAD);
        Due.is(16, "no deed", x.drop(-1, false), BAD);
        Due.is(60, "BAD", x.status(12), 6);
    }
}
