/** The boundaries that promises 25 to 31, 38 and 39 name: fewest FIELDS, none and one TELLING, the 20,000th CHOICE. */
public final class TellingsEdgesTest {
    private static final int NONE = Due.NONE;
    private static final int BAD = Due.BAD;
    private static final int STATE = Due.STATE;

    private TellingsEdgesTest() {
    }

    public static void main(String[] args) {
        fewFields();
        onePair();
        none();
        noneThoughKnown();
        mostFields();
        years();
        most();
        foundAboutTheEnd();
        endedAboutTheEnd();
        allAboutTheEnd();
        someSpent();
        mayAndMust();
        mayOfEachPair();
        ringsAndSpent();
        settleFields();
        settleNone();
        settleFirst();
        settleSpent();
        Due.end("TellingsEdgesTest");
    }

    /** "(With fewer than two FIELDS it is FOUND at once.)" */
    private static void fewFields() {
        for (int fields = 0; fields <= 2; fields++) {
            DeedCourt x = Due.land(fields);
            int choices = fields == 2 ? 1 : 0;
            Due.is(25, "can, FIELDS: " + fields, x.can(0), 1);
            Due.is(26, "choose, FIELDS: " + fields, x.choose(0), choices);
            Due.is(27, "blind, FIELDS: " + fields, x.blind(0), 0);
            Due.is(29, "many, FIELDS: " + fields, x.many(0, 500), fields == 2 ? 8 : 1);
            Due.is(29, "many, one at most", x.many(0, 1), 1);
            Due.is(28, "told", x.told(0, 1, 0), fields == 2 ? 0 : BAD);
            Due.is(30, "may", x.may(0, 1, 0), fields == 2 ? 255 : BAD);
            Due.is(31, "must", x.must(0, 1, 0), fields == 2 ? NONE : BAD);
        }
    }

    private static void onePair() {
        for (int way = 0; way < 8; way++) {
            DeedCourt x = Due.land(2);
            Due.deed(x, "0 " + Due.WAYS[way] + " 1");
            Due.is(26, "one CHOICE", x.choose(0), 1);
            Due.is(27, "it isn't BLIND", x.blind(0), 0);
            Due.is(28, "told", x.told(0, 1, 0), way);
            Due.is(28, "told, TURNED", 1 << x.told(1, 0, 0), x.turned(1 << way));
            Due.is(29, "many", x.many(0, 500), 1);
            Due.is(30, "may", x.may(0, 1, 0), 1 << way);
            Due.is(31, "must", x.must(0, 1, 0), way);
            Due.is(38, "settle", x.settle(0), 1);
            Due.is(39, "left", x.left(0), 1);
        }
    }

    /** "SETS SHRUNK (if one is empty: it ends, none)". */
    private static void none() {
        for (int fields = 2; fields <= 4; fields++) {
            DeedCourt x = Due.land(fields, "0 over 1", "1 edge 0");
            Due.is(25, "can", x.can(0), 0);
            Due.is(26, "choose: it ends at once", x.choose(0), 0);
            Due.is(27, "blind", x.blind(0), 0);
            Due.is(28, "told", x.told(0, 1, 0), NONE);
            Due.is(29, "many", x.many(0, 500), 0);
            Due.is(30, "may: the SET is empty", x.may(0, 1, 0), 0);
            Due.is(31, "must: there are none", x.must(0, 1, 0), NONE);
            if (fields > 2) {
                Due.is(28, "told of others", x.told(0, 2, 0), NONE);
                Due.is(30, "may of others: with none there is a TELLING", x.may(0, 2, 0), 0);
                Due.is(31, "must of others", x.must(2, 0, 0), NONE);
            }
        }
        // None is empty as it is said; one is as soon as all is SHRUNK.
        DeedCourt x = Due.land(3, "0 inside 1", "1 inside 2", "2 touch 0");
        Due.is(26, "choose: it ends at once", x.choose(0), 0);
        Due.is(29, "many", x.many(0, 1), 0);
        Due.is(30, "may", x.may(0, 1, 0), 0);
        // By shrinking none is; each CHOICE is BLIND.
        DeedCourt hard = Hard.land(0);
        Due.is(26, "choose: each of three", hard.choose(0), 3);
        Due.is(27, "each is BLIND", hard.blind(0), 3);
        Due.is(25, "can", hard.can(0), 0);
        Due.is(29, "many", hard.many(0, 500), 0);
    }

    /** "NONE: there is none": of two FIELDS, too, that by what is left could lie to each other in one WAY alone. */
    private static void noneThoughKnown() {
        DeedCourt atOnce = Due.land(3, "0 inside 1", "1 inside 2", "2 touch 0");
        DeedCourt late = Hard.land(2);
        Due.deed(late, "0 same 1");
        Due.is(24, "it is known", late.known(0, 1, 0), 128);
        Due.is(27, "each CHOICE there is BLIND", late.blind(0) > 0 ? 1 : 0, 1);
        for (int a = 0; a < 3; a++) {
            for (int b = 0; b < 3; b++) {
                if (a != b) {
                    Due.is(28, "one is empty at once", atOnce.told(a, b, 0), NONE);
                    Due.is(30, "one is empty at once", atOnce.may(a, b, 0), 0);
                    Due.is(31, "one is empty at once", atOnce.must(a, b, 0), NONE);
                    Due.is(28, "it ends later", late.told(a, b, 0), NONE);
                }
            }
        }
        Due.is(42, "lay", atOnce.lay(0), NONE);
        Due.is(42, "lay", late.lay(0), NONE);
        Due.is(31, "must", late.must(0, 1, 0), NONE);
    }

    private static void mostFields() {
        DeedCourt x = Due.land(10, "8 same 9", "0 edge 9");
        Due.is(26, "one for each of 45 PAIRS", x.choose(0), 45);
        Due.is(28, "the last two", x.told(8, 9, 0), 7);
        Due.is(28, "the last two, TURNED", x.told(9, 8, 0), 7);
        Due.is(28, "the first and the last but one", x.told(0, 8, 0), 3);
        Due.is(28, "no FIELD", x.told(0, 10, 0), BAD);
        Due.is(28, "no FIELD", x.told(-1, 0, 0), BAD);
        Due.is(28, "a and itself, too", x.told(9, 9, 0), BAD);
        Due.is(30, "a and itself, too", x.may(9, 9, 0), BAD);
        Due.is(31, "a and itself, too", x.must(0, 0, 0), BAD);
        Due.is(30, "may", x.may(8, 9, 0), 128);
        Due.is(31, "must", x.must(0, 8, 0), 3);
        Due.is(29, "many: 500 at most", x.many(0, 500), 500);
    }

    private static void years() {
        for (int year : new int[] {0, 1, 999}) {
            DeedCourt x = Due.land(2, "0 within 1", "1 round 0 year " + year, "0 same 1 year 999");
            if (year > 0) {
                Due.is(30, "the year ahead of it", x.may(0, 1, year - 1), 24);
                Due.is(31, "the year ahead of it", x.must(0, 1, year - 1), NONE);
                Due.is(29, "the year ahead of it", x.many(year - 1, 500), 2);
            }
            boolean isLast = year == 999;
            Due.is(25, "its own YEAR", x.can(year), isLast ? 0 : 1);
            Due.is(26, "its own YEAR", x.choose(year), isLast ? 0 : 1);
            Due.is(28, "its own YEAR", x.told(0, 1, year), isLast ? NONE : 3);
            Due.is(29, "its own YEAR", x.many(year, 500), isLast ? 0 : 1);
            Due.is(30, "its own YEAR", x.may(0, 1, year), isLast ? 0 : 8);
            Due.is(31, "its own YEAR", x.must(1, 0, year), isLast ? NONE : 5);
        }
    }

    /** "most (1 to 500) at most". */
    private static void most() {
        DeedCourt x = Due.land(3);
        Due.is(29, "0", x.many(0, 0), BAD);
        Due.is(29, "501", x.many(0, 501), BAD);
        Due.is(29, "1 of 193", x.many(0, 1), 1);
        Due.is(29, "192 of 193", x.many(0, 192), 192);
        Due.is(29, "193 of 193", x.many(0, 193), 193);
        Due.is(29, "194 of 193", x.many(0, 194), 193);
        Due.is(29, "500 of 193", x.many(0, 500), 193);
        DeedCourt four = Due.land(4);
        Due.is(29, "499", four.many(0, 499), 499);
        Due.is(29, "500", four.many(0, 500), 500);
        Due.is(60, "BAD", x.status(12), 2);
    }

    /** "As soon as each PAIR has one it is FOUND": with the 20,000th CHOICE it is, and isn't SPENT. */
    private static void foundAboutTheEnd() {
        DeedCourt x = Late.found19999();
        Due.is(26, "FOUND with the 19,999th", x.choose(0), 19999);
        Due.is(25, "can", x.can(0), 1);
        DeedCourt y = Late.found20000();
        Due.is(26, "FOUND with the 20,000th", y.choose(0), 20000);
        Due.is(27, "BLIND ones of these", y.blind(0), 14580);
        Due.is(25, "can", y.can(0), 1);
        Due.is(28, "told", y.told(0, 1, 0), 6);
        Due.is(28, "told, TURNED", y.told(1, 0, 0), 4);
        Due.is(29, "one TELLING", y.many(0, 1), 1);
        Due.is(29, "behind it it is SPENT", y.many(0, 2), STATE);
        Due.is(42, "lay", y.lay(0), 25);
        Due.is(45, "laid as told", y.laid(0, 1), 6);
        Due.is(60, "STATE", y.status(15), 1);
        DeedCourt z = Late.found20001();
        Due.is(26, "it would be FOUND with the 20,001st", z.choose(0), STATE);
        Due.is(27, "blind", z.blind(0), STATE);
        Due.is(25, "can", z.can(0), STATE);
        Due.is(28, "told", z.told(0, 1, 0), STATE);
        Due.is(29, "many", z.many(0, 1), STATE);
        Due.is(42, "lay", z.lay(0), STATE);
        Due.is(60, "STATE", z.status(15), 6);
    }

    /** "It is SPENT, as soon as the 20,000th CHOICE is made and it would go on": one that ends with it isn't. */
    private static void endedAboutTheEnd() {
        DeedCourt x = Late.ended20000();
        Due.is(26, "it ends with the 20,000th", x.choose(0), 20000);
        Due.is(27, "BLIND ones of these", x.blind(0), 16043);
        Due.is(25, "can", x.can(0), 0);
        Due.is(28, "told", x.told(0, 1, 0), NONE);
        Due.is(29, "many", x.many(0, 500), 0);
        Due.is(42, "lay", x.lay(0), NONE);
        Due.is(60, "STATE", x.status(15), 0);
        DeedCourt y = Late.ended20001();
        Due.is(26, "it would end with the 20,001st", y.choose(0), STATE);
        Due.is(27, "blind", y.blind(0), STATE);
        Due.is(25, "can", y.can(0), STATE);
        Due.is(28, "told", y.told(0, 1, 0), STATE);
        Due.is(29, "many", y.many(0, 1), STATE);
        Due.is(42, "lay", y.lay(0), STATE);
    }

    /** "STATE: SPENT ahead of that": gone through by one SEARCH of 20,000 CHOICES. */
    private static void allAboutTheEnd() {
        DeedCourt x = Late.all20000();
        Due.is(29, "130 of 131", x.many(0, 130), 130);
        Due.is(29, "131 of 131", x.many(0, 131), 131);
        Due.is(29, "132 of 131: it ends with the 20,000th", x.many(0, 132), 131);
        Due.is(29, "500 of 131", x.many(0, 500), 131);
        DeedCourt y = Late.all20001();
        Due.is(29, "438", y.many(0, 438), 438);
        Due.is(29, "the 439th comes with the 20,001st", y.many(0, 439), STATE);
        Due.is(29, "500", y.many(0, 500), STATE);
        DeedCourt z = Late.next20001();
        Due.is(29, "398", z.many(0, 398), 398);
        Due.is(29, "the 399th comes with the 20,000th", z.many(0, 399), 399);
        Due.is(29, "the next one would come with the 20,001st", z.many(0, 400), STATE);
        Due.is(29, "500", z.many(0, 500), STATE);
    }

    /** "STATE: SPENT for one." */
    private static void someSpent() {
        DeedCourt x = Late.someSpent();
        Due.is(25, "it CAN be", x.can(0), 1);
        Due.is(28, "0 lies INSIDE 4", x.told(0, 4, 0), 4);
        Due.is(22, "of six WAYS", x.ways(0, 4, 0), 190);
        Due.is(30, "but with another the SEARCH is SPENT", x.may(0, 4, 0), STATE);
        Due.is(30, "TURNED", x.may(4, 0, 0), STATE);
        Due.is(31, "must likewise", x.must(0, 4, 0), STATE);
        Due.is(30, "for 0 and 1 none is", x.may(0, 1, 0), 16);
        Due.is(31, "for 0 and 1 none is", x.must(0, 1, 0), 4);
        Due.is(60, "STATE", x.status(15), 3);
    }

    private static void mayAndMust() {
        DeedCourt x = Due.land(3, "0 inside 1", "1 not apart 2", "0 not edge 2");
        Due.is(30, "all but what can't be", x.may(1, 2, 0), 254);
        Due.is(31, "more", x.must(1, 2, 0), NONE);
        Due.deed(x, "2 inside 0");
        Due.is(30, "one", x.may(1, 2, 0), 64);
        Due.is(31, "one", x.must(1, 2, 0), 6);
        Due.is(31, "one, TURNED", x.must(2, 1, 0), 4);
        DeedCourt first = Due.land(2, "0 apart 1");
        Due.is(31, "the first WAY", first.must(0, 1, 0), 0);
        DeedCourt last = Due.land(2, "0 same 1");
        Due.is(31, "the last WAY", last.must(0, 1, 0), 7);
        DeedCourt two = Due.land(2, "0 apart or same 1");
        Due.is(30, "two", two.may(0, 1, 0), 129);
        Due.is(31, "two", two.must(0, 1, 0), NONE);
    }

    /** "All WAYS of a to b with which there is a TELLING": of each two, by a DEED more that says each WAY alone. */
    private static void mayOfEachPair() {
        String[] deeds = {"0 touch or inside 1", "1 within 2", "3 over or round 1", "2 not apart 4", "4 same or touch 3"};
        for (int a = 0; a < 5; a++) {
            for (int b = 0; b < 5; b++) {
                int due = 0;
                for (int way = 0; way < 8 && a != b; way++) {
                    DeedCourt said = Due.land(5, deeds);
                    Due.deed(said, a + " " + Due.WAYS[way] + " " + b);
                    due |= said.can(0) << way;
                }
                DeedCourt x = Due.land(5, deeds);
                boolean isOne = Integer.bitCount(due) == 1;
                Due.is(30, "may(" + a + ", " + b + ")", x.may(a, b, 0), a == b ? BAD : due);
                Due.is(31, "must(" + a + ", " + b + ")", x.must(a, b, 0),
                    a == b ? BAD : isOne ? Integer.numberOfTrailingZeros(due) : NONE);
            }
        }
    }

    /** "no RING of any ORDER (with one no SEARCH is made)": so none is SPENT. */
    private static void ringsAndSpent() {
        String[] orders = {"north", "east", "larger"};
        for (String order : orders) {
            DeedCourt x = Hard.land(5);
            Due.is(25, "SPENT", x.can(0), STATE);
            Due.deed(x, "0 " + order + " 1");
            Due.is(25, "no RING yet", x.can(0), STATE);
            Due.deed(x, "1 " + order + " 0 year 3");
            Due.is(25, "no RING yet", x.can(2), STATE);
            Due.is(25, "a RING", x.can(3), 0);
            Due.is(60, "STATE", x.status(15), 3);
            Due.is(32, "quarrel: of some of them a SEARCH is SPENT", x.quarrel(3), STATE);
        }
    }

    /** "STATE: not 2 to 4 FIELDS". */
    private static void settleFields() {
        for (int fields = 0; fields <= 10; fields++) {
            DeedCourt x = Due.land(fields);
            for (int f = 1; f < fields; f++) {
                Due.deed(x, "0same" + f);
            }
            boolean fine = fields >= 2 && fields <= 4;
            Due.is(38, "FIELDS: " + fields, x.settle(0), fine ? 1 : STATE);
            Due.is(39, "FIELDS: " + fields, x.left(0), fine ? 1 : STATE);
            Due.is(38, "YEAR -1", x.settle(-1), BAD);
            Due.is(39, "YEAR 1000", x.left(1000), BAD);
        }
        // FIELDS of whatever YEAR, and parts, are FIELDS.
        DeedCourt x = Due.land(1);
        x.part(0, 999);
        Due.is(38, "three ahead of the parting", x.settle(0), 1);
        x.part(1, 999);
        Due.is(38, "five", x.settle(0), STATE);
    }

    /** "NONE: there is no TELLING", "(0: none)". */
    private static void settleNone() {
        for (int fields = 2; fields <= 4; fields++) {
            DeedCourt x = Due.land(fields, "0 over 1 year 1", "1 edge 0 year 2");
            Due.is(38, "there is none", x.settle(2), NONE);
            Due.is(39, "there is none", x.left(2), 0);
            if (fields == 2) {
                Due.is(38, "there is one", x.settle(1), 1);
                Due.is(39, "there is one", x.left(1), 1);
                Due.is(39, "eight, one for each WAY", x.left(0), 1);
            }
        }
    }

    /** "the PAIR for which this is least, of several the first": 100 times the lesser FIELD, and the other one. */
    private static void settleFirst() {
        // Of 0, 1, 2, 3 all are the SAME but two: that PAIR alone is left open, or its like.
        int[][] pairs = {{0, 1, 1}, {0, 2, 2}, {1, 2, 102}, {0, 3, 3}, {1, 3, 103}, {2, 3, 203}};
        for (int[] p : pairs) {
            DeedCourt x = Due.land(4);
            int open = p[1];
            int other = p[0];
            for (int f = 0; f < 4; f++) {
                if (f != open && f != other) {
                    Due.deed(x, f + " inside " + open);
                    Due.deed(x, f + " inside " + other);
                }
            }
            int[] rest = new int[2];
            int count = 0;
            for (int f = 0; f < 4; f++) {
                if (f != open && f != other) {
                    rest[count++] = f;
                }
            }
            Due.deed(x, rest[0] + " same " + rest[1]);
            // What holds the same two is OVER, EDGE, INSIDE, ROUND, HOLDS or SAME: six TELLINGS.
            Due.is(29, "six TELLINGS", x.many(0, 500), 6);
            Due.is(38, "the PAIR that is open", x.settle(0), p[2]);
            Due.is(39, "one for each WAY", x.left(0), 1);
        }
        Due.is(38, "none is better: the first", Due.land(4, "0 same 1", "1 same 2", "2 same 3").settle(0), 1);
    }

    /** The 20,009 CHOICES that four FIELDS without DEEDS need are too many; 19,793 aren't. */
    private static void settleSpent() {
        DeedCourt x = Due.land(4);
        Due.is(38, "four FIELDS without DEEDS", x.settle(0), STATE);
        Due.is(39, "four FIELDS without DEEDS", x.left(0), STATE);
        Due.deed(x, "2 not same 3");
        Due.is(38, "one WAY less", x.settle(0), 1);
        Due.is(39, "one WAY less", x.left(0), 2919);
        DeedCourt y = Due.land(4, "0 not same 1 year 7");
        Due.is(38, "the YEAR ahead of it", y.settle(6), STATE);
        Due.is(38, "one WAY less of 0 and 1", y.settle(7), 2);
        Due.is(39, "one WAY less of 0 and 1", y.left(7), 2919);
    }
}
