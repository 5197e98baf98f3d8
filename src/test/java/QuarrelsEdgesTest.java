/** The boundaries that promises 32 to 37 name: no DEEDS and eight, sums, ties, SPENT sets, what isn't looked at. */
public final class QuarrelsEdgesTest {
    private static final int NONE = Due.NONE;
    private static final int BAD = Due.BAD;
    private static final int STATE = Due.STATE;
    private static final String IMPOSSIBLE = "0 not apart or touch or over or within or round or holds or same 1";

    private QuarrelsEdgesTest() {
    }

    public static void main(String[] args) {
        noDeeds();
        eight();
        eightAsOf();
        lastNumbers();
        sums();
        ties();
        ringsAlone();
        parted();
        notLookedAt();
        looksAtSpent();
        words();
        wordsSpent();
        wordsStay();
        years();
        Due.end("QuarrelsEdgesTest");
    }

    private static void expect(String name, DeedCourt x, int year, int quarrel, int doubt, int drops, int rival) {
        Due.is(32, name + ": quarrel", x.quarrel(year), quarrel);
        Due.is(33, name + ": small", x.small(year), quarrel < 0 ? quarrel : Integer.bitCount(quarrel));
        Due.is(34, name + ": doubt", x.doubt(year), doubt);
        Due.is(35, name + ": drops", x.drops(year), drops);
        Due.is(36, name + ": rival", x.rival(year), rival);
    }

    /** "0: it CAN be", "0: none". */
    private static void noDeeds() {
        for (int fields = 0; fields <= 2; fields++) {
            expect("no DEEDS, FIELDS: " + fields, Due.land(fields), 0, 0, 0, 0, 1);
        }
        DeedCourt x = Due.land(2, IMPOSSIBLE);
        expect("one that lets nothing", x, 0, 1, 1, 1, 1);
        x.drop(0, true);
        expect("it is DROPPED", x, 999, 0, 0, 0, 1);
        DeedCourt y = Due.land(2, "0 over 1");
        expect("one that CAN be", y, 0, 0, 0, 0, 1);
    }

    /** "QUARRELS, for 8 DEEDS AS OF a YEAR at most". */
    private static void eight() {
        for (int deeds = 7; deeds <= 9; deeds++) {
            DeedCourt x = Due.land(2);
            for (int d = 0; d < deeds; d++) {
                Due.deed(x, d < 8 ? "0 " + Due.WAYS[d] + " 1 weight " + (d + 1) : "0 over 1");
            }
            if (deeds == 9) {
                expect("nine", x, 0, STATE, STATE, STATE, STATE);
                Due.is(37, "nine", x.word(0, 0), STATE);
                Due.is(60, "STATE", x.status(15), 6);
                x.drop(8, true);
            }
            // All but the heaviest are to drop: the QUARREL of the least two.
            int kept = Math.min(deeds, 8);
            expect("DEEDS: " + kept, x, 0, 3, kept * (kept - 1) / 2, (1 << kept - 1) - 1, 1);
            Due.is(37, "word: no DEED says it", x.word(0, 0), 0);
        }
    }

    /** Those that are DROPPED, and those of a later YEAR, are none of the eight. */
    private static void eightAsOf() {
        DeedCourt x = Due.land(2);
        for (int d = 0; d < 24; d++) {
            Due.deed(x, "0over1year" + d);
        }
        expect("eight of 24", x, 7, 0, 0, 0, 1);
        expect("nine of 24", x, 8, STATE, STATE, STATE, STATE);
        for (int d = 0; d < 16; d++) {
            x.drop(d, true);
        }
        expect("the last eight", x, 999, 0, 0, 0, 1);
        x.drop(0, false);
        expect("nine", x, 999, STATE, STATE, STATE, STATE);
        expect("of these eight are of later YEARS", x, 15, 0, 0, 0, 1);
    }

    /** "(bit d: DEED d)": to the last one. */
    private static void lastNumbers() {
        DeedCourt x = Due.land(2);
        for (int d = 0; d < 22; d++) {
            Due.deed(x, "0over1year9");
        }
        Due.deed(x, "0edge1weight9");
        Due.deed(x, "0over1weight8");
        expect("the last two", x, 0, 3 << 22, 8, 1 << 23, 1);
        x.weigh(23, 9);
        expect("the last two, of one weight", x, 0, 3 << 22, 9, 1 << 22, 2);
    }

    /** Each alone lets nothing, of the greatest weight: all are to drop. */
    private static void sums() {
        DeedCourt x = Due.land(2);
        for (int d = 0; d < 8; d++) {
            Due.deed(x, IMPOSSIBLE);
            x.weigh(d, 99);
        }
        expect("eight of 99", x, 0, 1, 792, 255, 1);
        x.weigh(7, 1);
        expect("seven of 99, and one of 1", x, 0, 1, 694, 255, 1);
        DeedCourt y = Due.land(2, "0 over 1 weight 99", "0 edge 1 weight 98");
        expect("98 are fewer", y, 0, 3, 98, 2, 1);
        y.weigh(0, 97);
        expect("97 are fewer", y, 0, 3, 97, 1, 1);
    }

    /** "of several sets the least as bits", "RIVALS: how many sets have that sum". */
    private static void ties() {
        DeedCourt x = Due.land(2);
        for (int way = 0; way < 8; way++) {
            Due.deed(x, "0 " + Due.WAYS[way] + " 1 weight 5");
        }
        expect("seven of eight, whichever", x, 0, 3, 35, 127, 8);
        // One of 2, or two of 1 each: three sets of one sum in all; the least as bits has 0 and 1.
        DeedCourt y = Due.land(2, "0 over 1", "0 over 1", "0 edge 1 weight 2");
        expect("two light ones, or a heavy one", y, 0, 5, 2, 3, 2);
        DeedCourt z = Due.land(2, "0 edge 1 weight 2", "0 over 1", "0 over 1");
        expect("a heavy one, or two light ones", z, 0, 3, 2, 1, 2);
        DeedCourt two = Due.land(4, "0 over 1", "2 over 3", "0 edge 1", "2 edge 3");
        expect("two QUARRELS apart", two, 0, 5, 2, 3, 4);
        two.weigh(0, 2);
        expect("of the first one the heavier stays", two, 0, 5, 2, 6, 2);
    }

    /** A QUARREL by a RING alone; its size is the RING's. */
    private static void ringsAlone() {
        DeedCourt x = Due.land(8);
        for (int f = 0; f < 8; f++) {
            Due.deed(x, f + " north " + (f + 1) % 8);
        }
        expect("eight in a RING", x, 0, 255, 1, 1, 8);
        x.weigh(0, 2);
        expect("the next one is lighter", x, 0, 255, 1, 2, 7);
        x.drop(3, true);
        expect("no RING any more", x, 0, 0, 0, 0, 1);
    }

    /** "alone (and what was parted)". */
    private static void parted() {
        DeedCourt x = Due.land(1);
        x.part(0, 50);
        Due.deed(x, "1 over 2 weight 4");
        Due.deed(x, "1 round 0 weight 6");
        expect("ahead of the parting", x, 49, 0, 0, 0, 1);
        expect("in its YEAR", x, 50, 1, 10, 3, 1);
        expect("later", x, 999, 1, 10, 3, 1);
        x.part(2, 60);
        Due.deed(x, "3 touch or over 1 year 60");
        expect("what is part of a part: a third that CAN be", x, 60, 1, 10, 3, 1);
        DeedCourt most = Due.land(2);
        for (int f = 0; f < 8; f += 2) {
            most.part(f, 0);
        }
        expect("what was parted alone CAN be", most, 0, 0, 0, 0, 1);
        Due.is(25, "what was parted alone CAN be", most.can(0), 1);
    }

    /** "what is part of one that CAN be CAN be, and isn't looked at": so it isn't SPENT. */
    private static void notLookedAt() {
        for (int d = 0; d < 7; d++) {
            DeedCourt x = Late.fewDeeds(d);
            Due.is(25, "all of them CAN be", x.can(0), 1);
            expect("all of them CAN be", x, 0, 0, 0, 0, 1);
            Due.is(37, "word", x.word(3, 0), 0);
            Due.is(60, "nothing is refused", x.status(15), 0);
            x.drop(d, true);
            Due.is(25, "without DEED " + d + ": SPENT", x.can(0), STATE);
            expect("without DEED " + d + ": SPENT", x, 0, STATE, STATE, STATE, STATE);
            Due.is(37, "word", x.word(3, 0), STATE);
            Due.is(60, "STATE", x.status(15), 7);
        }
    }

    /** "if one that is looked at is SPENT: STATE", even if all of them CAN not be by a RING. */
    private static void looksAtSpent() {
        DeedCourt x = Hard.land(5);
        Due.deed(x, "0 north 1 year 2");
        Due.deed(x, "1 north 0 year 2");
        expect("SPENT", x, 1, STATE, STATE, STATE, STATE);
        expect("all have a RING, some are SPENT", x, 2, STATE, STATE, STATE, STATE);
        x.drop(5, true);
        expect("none is SPENT", x, 2, 3 << 6, 1, 1 << 6, 2);
        DeedCourt y = Hard.land(0);
        expect("the six together alone", y, 0, 63, 1, 1, 6);
    }

    /** "of several the first"; OLD WORDS 0 to 3. */
    private static void words() {
        for (int word : new int[] {0, 3}) {
            for (int way = 0; way < 8; way++) {
                DeedCourt x = Due.land(2, "0 old " + word + " 1", "0 " + Due.WAYS[way] + " 1");
                Due.is(37, "the only one without DOUBT", x.word(word, 0), way);
                Due.is(37, "of another one all are alike: the first", x.word(3 - word, 0), 0);
            }
        }
        DeedCourt x = Due.land(2, "0 old 1 1", "0 holds or same 1");
        Due.is(37, "of two the first", x.word(1, 0), 6);
        Due.deed(x, "0 not holds 1 weight 2");
        Due.is(37, "the other one", x.word(1, 0), 7);
        Due.is(37, "no OLD WORD", x.word(-1, 0), BAD);
        Due.is(37, "no OLD WORD", x.word(4, 0), BAD);
        Due.is(37, "no FIELDS, no DEEDS", new DeedCourt().word(0, 0), 0);
        DeedCourt none = Due.land(2, IMPOSSIBLE, "0 old 0 1");
        Due.is(37, "there is DOUBT by all of them alike: the first", none.word(0, 0), 0);
    }

    /** "STATE likewise": SPENT for one WAY is enough, the first one or another. */
    private static void wordsSpent() {
        // Late.fewDeeds(6) says last how 0 lies to 3; here another PAIR's WAY is an OLD WORD.
        int[] six = {STATE, 0, 0, 0, 0, 0, 0, 0};
        int[] five = {0, 0, STATE, 0, STATE, 0, 0, 0};
        int[] four = {0, 0, 0, 0, 0, 0, 0, 0};
        spentByWay("1 old 1 6", six, STATE);
        spentByWay("1 old 1 5", five, STATE);
        spentByWay("1 old 1 4", four, 0);
    }

    private static void spentByWay(String deed, int[] doubts, int word) {
        DeedCourt x = Late.fewDeeds(6);
        x.drop(6, true);
        Due.deed(x, deed);
        for (int way = 0; way < 8; way++) {
            x.mean(1, way);
            Due.is(34, deed + ", if it means " + way, x.doubt(0), doubts[way]);
        }
        Due.is(37, deed, x.word(1, 0), word);
        Due.is(18, "it means that still", x.mean(1, NONE), 7);
    }

    /** "if it meant that": it means as ahead, whatever word() answers. */
    private static void wordsStay() {
        for (int way = NONE; way < 8; way++) {
            DeedCourt x = Due.land(2, "0 old 1 1", "0 edge 1");
            x.mean(1, way);
            Due.is(37, "whatever it means", x.word(1, 0), 3);
            Due.is(18, "it means that still", x.mean(1, way), way);
            for (int d = 0; d < 8; d++) {
                Due.deed(x, "0over1");
            }
            Due.is(37, "more than eight", x.word(1, 0), STATE);
            Due.is(18, "it means that still", x.mean(1, way), way);
            Due.is(37, "a bad YEAR", x.word(1, 1000), BAD);
            Due.is(18, "it means that still", x.mean(1, way), way);
        }
    }

    private static void years() {
        DeedCourt x = Due.land(2, "0 over 1", "0 edge 1 year 999");
        expect("YEAR 998", x, 998, 0, 0, 0, 1);
        expect("YEAR 999", x, 999, 3, 1, 1, 2);
        expect("YEAR 0", x, 0, 0, 0, 0, 1);
        expect("YEAR 1000", x, 1000, BAD, BAD, BAD, BAD);
        expect("YEAR -1", x, -1, BAD, BAD, BAD, BAD);
        Due.is(37, "YEAR 1000", x.word(0, 1000), BAD);
        Due.is(37, "YEAR -1", x.word(0, -1), BAD);
        Due.is(60, "BAD", x.status(12), 12);
    }
}
