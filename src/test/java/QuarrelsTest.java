/** Promises 32 to 37: deeds that quarrel, which to doubt, and what an old word must have meant. */
public final class QuarrelsTest {
    private static final int BAD = -2;
    private static final int STATE = -5;

    private QuarrelsTest() {
    }

    public static void main(String[] args) {
        none();
        pairs();
        rings();
        byYears();
        atMostEight();
        spent();
        words();
        bad();
        Due.end("QuarrelsTest");
    }

    private static void expect(DeedCourt x, int year, int quarrel, int doubt, int drops, int rival) {
        Due.is(32, "quarrel", x.quarrel(year), quarrel);
        Due.is(33, "small", x.small(year), quarrel < 0 ? quarrel : Integer.bitCount(quarrel));
        Due.is(34, "doubt", x.doubt(year), doubt);
        Due.is(35, "drops", x.drops(year), drops);
        Due.is(36, "rival", x.rival(year), rival);
    }

    private static void none() {
        expect(new DeedCourt(), 0, 0, 0, 0, 1);
        expect(Due.land(3, "0 inside 1", "1 inside 2"), 0, 0, 0, 0, 1);
        DeedCourt x = Due.land(1);
        x.part(0, 0);
        x.part(1, 0);
        x.part(2, 0);
        expect(x, 0, 0, 0, 0, 1);
    }

    private static void pairs() {
        DeedCourt x = Due.land(2, "0 apart 1 weight 2", "0 touch 1 weight 2", "0 apart or touch 1");
        expect(x, 0, 3, 2, 1, 2);
        Due.deed(x, "0 over 1 weight 9");
        expect(x, 0, 3, 5, 7, 1);
        x.weigh(3, 1);
        expect(x, 0, 3, 3, 9, 2);
        x.weigh(0, 50);
        x.weigh(2, 50);
        expect(x, 0, 3, 3, 10, 1);
        x.drop(1, true);
        expect(x, 0, 9, 1, 8, 1);
        x.drop(0, true);
        expect(x, 0, 12, 1, 8, 1);
        x.drop(2, true);
        expect(x, 0, 0, 0, 0, 1);
        // One deed that lets no way quarrels alone.
        Due.deed(x, "0 not apart or touch or over or within or round or holds or same 1 weight 7");
        expect(x, 0, 16, 7, 16, 1);
        // The fewest are a quarrel, even if others have lesser numbers.
        DeedCourt y = Due.land(4, "0 inside 1", "1 inside 2", "0 touch 2", "0 apart 3", "3 over 0");
        expect(y, 0, 24, 2, 9, 6);
    }

    private static void rings() {
        DeedCourt x = Due.land(3, "0 north 1 weight 3", "1 north 2 weight 2", "2 north 0 weight 2");
        expect(x, 0, 7, 2, 2, 2);
        Due.deed(x, "1 north 0 weight 5");
        expect(x, 0, 9, 3, 1, 1);
        x.weigh(0, 7);
        // Now without 1 and 3, or 2 and 3, or 0: the least as bits is 0.
        expect(x, 0, 9, 7, 1, 3);
    }

    private static void byYears() {
        DeedCourt x = Due.land(1);
        x.part(0, 10);
        Due.deed(x, "1 apart 0 year 3 weight 4");
        Due.deed(x, "1 over 2 year 20 weight 6");
        expect(x, 2, 0, 0, 0, 1);
        expect(x, 9, 0, 0, 0, 1);
        expect(x, 10, 1, 4, 1, 1);
        expect(x, 19, 1, 4, 1, 1);
        expect(x, 20, 1, 10, 3, 1);
    }

    private static void atMostEight() {
        DeedCourt x = Due.land(2);
        for (int d = 0; d < 12; d++) {
            Due.deed(x, d == 11 ? "0 over 1 year 2 weight 99"
                : "0 apart 1 year " + (d < 7 ? 1 : d < 8 ? 2 : 3) + " weight 2");
        }
        expect(x, 1, 0, 0, 0, 1);
        expect(x, 2, STATE, STATE, STATE, STATE);
        expect(x, 3, STATE, STATE, STATE, STATE);
        Due.is(37, "word", x.word(0, 2), STATE);
        Due.is(60, "STATE", x.status(15), 11);
        x.drop(0, true);
        expect(x, 2, 1 << 1 | 1 << 11, 14, 254, 1);
        Due.is(37, "word", x.word(0, 2), 0);
    }

    private static void spent() {
        DeedCourt x = Hard.land(5);
        expect(x, 0, STATE, STATE, STATE, STATE);
        Due.is(37, "word", x.word(0, 0), STATE);
        // With these two all can't be by shrinking alone; but without one of them a search is spent.
        Due.deed(x, "0 apart 1");
        Due.deed(x, "1 over 0");
        expect(x, 0, STATE, STATE, STATE, STATE);
        x.drop(0, true);
        expect(x, 0, 192, 1, 64, 2);
        DeedCourt y = Hard.land(0);
        expect(y, 0, 63, 1, 1, 6);
    }

    private static void words() {
        DeedCourt x = Due.land(2, "0 old 0 1 weight 9", "0 edge 1 weight 2", "0 inside 1 weight 3");
        Due.is(37, "without the lightest", x.word(0, 0), 4);
        x.weigh(1, 4);
        Due.is(37, "without the lightest", x.word(0, 0), 3);
        x.weigh(1, 3);
        Due.is(37, "the first of two", x.word(0, 0), 3);
        x.weigh(0, 1);
        Due.is(37, "now it is the lightest, but one of the others is to drop, too", x.word(0, 0), 3);
        Due.is(37, "another word", x.word(3, 0), 0);
        Due.is(18, "it means still nothing", x.mean(0, 0), -1);
        Due.is(37, "whatever it means", x.word(0, 0), 3);
        Due.is(18, "it means still that", x.mean(0, -1), 0);
        DeedCourt y = Due.land(2, "0 not old 2 1", "0 apart or touch 1 year 5", "1 old 3 0 year 6", "1 round 0 year 6");
        Due.is(37, "the first that doesn't quarrel", y.word(2, 0), 0);
        Due.is(37, "the first that doesn't quarrel", y.word(2, 5), 0);
        y.drop(1, true);
        Due.is(37, "ROUND as it is turned", y.word(3, 6), 5);
        DeedCourt z = Due.land(2, "0 not old 2 1", "0 apart 1");
        Due.is(37, "not APART", z.word(2, 0), 1);
    }

    private static void bad() {
        DeedCourt x = Due.land(2);
        for (int year : new int[] {-1, 1000}) {
            expectBad(x, year);
        }
        Due.is(37, "word", x.word(-1, 0), BAD);
        Due.is(37, "word", x.word(4, 0), BAD);
        Due.is(60, "BAD", x.status(12), 2 * 6 + 2);
        for (int d = 0; d < 9; d++) {
            Due.deed(x, "0 apart 1");
        }
        expectBad(x, 1000);
        Due.is(60, "STATE", x.status(15), 0);
    }

    private static void expectBad(DeedCourt x, int year) {
        Due.is(32, "quarrel", x.quarrel(year), BAD);
        Due.is(33, "small", x.small(year), BAD);
        Due.is(34, "doubt", x.doubt(year), BAD);
        Due.is(35, "drops", x.drops(year), BAD);
        Due.is(36, "rival", x.rival(year), BAD);
        Due.is(37, "word", x.word(0, year), BAD);
    }
}
