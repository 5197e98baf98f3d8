/** Promises 40 and 41: rings of orders, and ranks. */
public final class OrdersTest {
    private static final int BAD = -2;
    private static final int STATE = -5;

    private OrdersTest() {
    }

    public static void main(String[] args) {
        rings();
        ranks();
        bad();
        Due.end("OrdersTest");
    }

    private static void rings() {
        DeedCourt x = Due.land(5, "0 north 1", "1 north 2", "2 north 0 year 3", "2 north 1 year 7", "2 east 0",
            "3 larger 4", "4 larger 3", "4 north 3");
        Due.is(40, "none yet", x.ring(0, 2), -1);
        Due.is(40, "three", x.ring(0, 3), 3);
        Due.is(40, "the fewest are two", x.ring(0, 7), 2);
        Due.is(40, "of one order alone", x.ring(1, 999), -1);
        Due.is(40, "another order", x.ring(2, 0), 2);
        x.drop(3, true);
        Due.is(40, "without the dropped one", x.ring(0, 7), 3);
        DeedCourt y = Due.land(10);
        for (int f = 0; f < 10; f++) {
            Due.deed(y, f + " east " + (f + 1) % 10);
        }
        Due.is(40, "ten", y.ring(1, 0), 10);
        Due.deed(y, "6 east 4 year 1");
        Due.is(40, "three", y.ring(1, 1), 3);
        Due.is(40, "no fields", new DeedCourt().ring(0, 0), -1);
    }

    private static void ranks() {
        DeedCourt x = Due.land(6, "0 larger 1", "1 larger 2", "0 larger 2", "3 larger 0 year 4", "2 east 1", "4 north 5",
            "5 north 4 year 9");
        int[] due = {2, 1, 0, 0, 0, 0};
        for (int f = 0; f < 6; f++) {
            Due.is(41, "rank", x.rank(2, f, 3), due[f]);
        }
        Due.is(41, "from its year on", x.rank(2, 3, 4), 3);
        Due.is(41, "of another order", x.rank(1, 2, 0), 1);
        Due.is(41, "of another order", x.rank(1, 0, 0), 0);
        Due.is(41, "ahead of the ring", x.rank(0, 4, 8), 1);
        Due.is(41, "in the ring", x.rank(0, 4, 9), STATE);
        Due.is(41, "not in it, but there is one", x.rank(0, 0, 9), STATE);
        Due.is(41, "a ring of another order", x.rank(2, 0, 9), 2);
        DeedCourt y = Due.land(10);
        for (int f = 0; f < 9; f++) {
            Due.deed(y, f + " north " + (f + 1));
        }
        Due.is(41, "a long row", y.rank(0, 0, 0), 9);
        Due.is(41, "its end", y.rank(0, 9, 0), 0);
        Due.is(60, "STATE", x.status(15), 2);
    }

    private static void bad() {
        DeedCourt x = Due.land(2, "0 north 1", "1 north 0");
        int[][] bad = {{-1, 0, 0}, {3, 0, 0}, {0, -1, 0}, {0, 2, 0}, {0, 0, -1}, {0, 0, 1000}};
        for (int[] b : bad) {
            Due.is(41, "rank bad", x.rank(b[0], b[1], b[2]), BAD);
        }
        Due.is(40, "no order", x.ring(-1, 0), BAD);
        Due.is(40, "no order", x.ring(3, 0), BAD);
        Due.is(40, "no year", x.ring(0, -1), BAD);
        Due.is(40, "no year", x.ring(0, 1000), BAD);
        Due.is(60, "BAD", x.status(12), 10);
        Due.is(60, "STATE", x.status(15), 0);
    }
}
