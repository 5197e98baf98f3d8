/** The boundaries that promises 40 and 41 name: RINGS and RANKS of ORDERS. */
public final class OrdersEdgesTest {
    private static final int NONE = Due.NONE;
    private static final int BAD = Due.BAD;
    private static final int STATE = Due.STATE;
    private static final String[] ORDERS = {"north", "east", "larger"};

    private OrdersEdgesTest() {
    }

    public static void main(String[] args) {
        sizes();
        years();
        orders();
        fewest();
        ranks();
        rankOfRings();
        numbers();
        Due.end("OrdersEdgesTest");
    }

    /** A RING has two FIELDS at least, ten at most; "back to the first again". */
    private static void sizes() {
        for (int size = 2; size <= 10; size++) {
            DeedCourt x = Due.land(10);
            for (int f = 0; f + 1 < size; f++) {
                Due.deed(x, f + "north" + (f + 1));
            }
            Due.is(40, "not back yet, of " + size, x.ring(0, 0), NONE);
            Due.is(41, "RANK of the first", x.rank(0, 0, 0), size - 1);
            Due.is(41, "RANK of the last", x.rank(0, size - 1, 0), 0);
            Due.is(25, "it CAN be", x.can(0), 1);
            Due.deed(x, (size - 1) + "north0");
            Due.is(40, "back again, of " + size, x.ring(0, 0), size);
            Due.is(41, "no RANKS", x.rank(0, 0, 0), STATE);
            Due.is(25, "it CAN not be", x.can(0), 0);
        }
    }

    private static void years() {
        for (int year : new int[] {0, 1, 998, 999}) {
            DeedCourt x = Due.land(2, "0 east 1", "1 east 0 year " + year);
            if (year > 0) {
                Due.is(40, "the year ahead of it", x.ring(1, year - 1), NONE);
                Due.is(41, "the year ahead of it", x.rank(1, 0, year - 1), 1);
                Due.is(25, "the year ahead of it", x.can(year - 1), 1);
            }
            Due.is(40, "its own YEAR", x.ring(1, year), 2);
            Due.is(41, "its own YEAR", x.rank(1, 0, year), STATE);
            Due.is(25, "its own YEAR", x.can(year), 0);
            x.drop(0, true);
            Due.is(40, "without the DROPPED one", x.ring(1, year), NONE);
            Due.is(41, "without the DROPPED one", x.rank(1, 1, year), 1);
        }
    }

    /** Each ORDER is one of its own: 0 to 2. */
    private static void orders() {
        for (int order = 0; order < 3; order++) {
            DeedCourt x = Due.land(3, "0 " + ORDERS[order] + " 1", "1 " + ORDERS[order] + " 0",
                "1 " + ORDERS[(order + 1) % 3] + " 2", "2 " + ORDERS[(order + 2) % 3] + " 1");
            for (int other = 0; other < 3; other++) {
                Due.is(40, "RING of " + other, x.ring(other, 0), other == order ? 2 : NONE);
                Due.is(41, "RANK by " + other, x.rank(other, 2, 0), other == order ? STATE : other == (order + 2) % 3 ? 1 : 0);
            }
            Due.is(25, "with a RING of any ORDER it CAN not be", x.can(0), 0);
            Due.is(40, "no ORDER", x.ring(3, 0), BAD);
            Due.is(40, "no ORDER", x.ring(-1, 0), BAD);
            Due.is(41, "no ORDER", x.rank(3, 0, 0), BAD);
            Due.is(41, "no ORDER", x.rank(-1, 0, 0), BAD);
        }
        DeedCourt mixed = Due.land(2, "0 north 1", "1 east 0", "0 larger 1");
        for (int order = 0; order < 3; order++) {
            Due.is(40, "of two ORDERS there is none", mixed.ring(order, 0), NONE);
        }
        DeedCourt ways = Due.land(2, "0 touch 1", "1 touch 0");
        Due.is(40, "of DEEDS without an ORDER there is none", ways.ring(0, 0), NONE);
        Due.is(41, "first of no DEED of the ORDER", ways.rank(0, 0, 0), 0);
    }

    private static void fewest() {
        DeedCourt x = Due.land(7, "0 north 1", "1 north 2", "2 north 3", "3 north 0", "4 north 5", "5 north 6", "6 north 4",
            "2 north 0 year 1", "6 north 5 year 2");
        Due.is(40, "of four and three", x.ring(0, 0), 3);
        Due.is(40, "of four and two threes", x.ring(0, 1), 3);
        Due.is(40, "of two", x.ring(0, 2), 2);
        for (int d = 4; d < 7; d++) {
            x.drop(d, true);
        }
        Due.is(40, "of four", x.ring(0, 0), 4);
        Due.is(40, "of three", x.ring(0, 1), 3);
        DeedCourt twice = Due.land(2, "0 north 1", "0 north 1");
        Due.is(40, "the same DEED twice is no RING", twice.ring(0, 0), NONE);
        Due.is(41, "nor is it more RANK", twice.rank(0, 0, 0), 1);
    }

    /** "0 if it is the first of no DEED of the ORDER, else 1 more than the greatest of ..". */
    private static void ranks() {
        DeedCourt x = Due.land(10, "9 larger 0", "0 larger 1", "9 larger 8", "8 larger 7", "7 larger 6", "6 larger 5");
        int[] due = {1, 0, 0, 0, 0, 0, 1, 2, 3, 4};
        for (int f = 0; f < 10; f++) {
            Due.is(41, "RANK of " + f, x.rank(2, f, 0), due[f]);
            Due.is(41, "by another ORDER", x.rank(1, f, 0), 0);
        }
        x.drop(2, true);
        Due.is(41, "the greatest of those that are left", x.rank(2, 9, 0), 2);
        x.drop(0, true);
        Due.is(41, "first of no DEED that isn't DROPPED", x.rank(2, 9, 0), 0);
        DeedCourt back = Due.land(10);
        for (int f = 9; f > 0; f--) {
            Due.deed(back, f + "north" + (f - 1));
        }
        for (int f = 0; f < 10; f++) {
            Due.is(41, "RANK of " + f, back.rank(0, f, 999), f);
        }
    }

    /** "STATE: there is a RING of it (of whichever FIELDS)". */
    private static void rankOfRings() {
        DeedCourt x = Due.land(5, "0 north 1", "1 north 0 year 5", "2 north 3");
        for (int f = 0; f < 5; f++) {
            Due.is(41, "ahead of the RING", x.rank(0, f, 4), f == 0 || f == 2 ? 1 : 0);
            Due.is(41, "of whichever FIELDS", x.rank(0, f, 5), STATE);
            Due.is(41, "by another ORDER", x.rank(1, f, 5), 0);
        }
        Due.is(60, "STATE", x.status(15), 5);
    }

    private static void numbers() {
        DeedCourt none = new DeedCourt();
        Due.is(40, "no FIELDS", none.ring(0, 999), NONE);
        Due.is(41, "no FIELDS", none.rank(0, 0, 0), BAD);
        DeedCourt x = Due.land(1);
        Due.is(40, "one FIELD", x.ring(2, 0), NONE);
        Due.is(41, "one FIELD", x.rank(2, 0, 999), 0);
        Due.is(41, "no such FIELD", x.rank(2, 1, 0), BAD);
        Due.is(41, "no such FIELD", x.rank(2, -1, 0), BAD);
        Due.is(40, "YEAR -1", x.ring(0, -1), BAD);
        Due.is(40, "YEAR 1000", x.ring(0, 1000), BAD);
        Due.is(41, "YEAR -1", x.rank(0, 0, -1), BAD);
        Due.is(41, "YEAR 1000", x.rank(0, 0, 1000), BAD);
        Due.is(60, "BAD", x.status(12), 6);
    }
}
