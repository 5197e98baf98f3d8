/** Promises 25 to 31, 38 and 39: tellings, the search for them, what may and must be, and what settles most. */
public final class TellingsTest {
    private static final int BAD = -2;
    private static final int STATE = -5;

    private TellingsTest() {
    }

    public static void main(String[] args) {
        few();
        pairs();
        choices();
        rings();
        blind();
        spent();
        may();
        settle();
        bad();
        Due.end("TellingsTest");
    }

    private static void few() {
        for (int fields = 0; fields < 2; fields++) {
            DeedCourt x = Due.land(fields);
            Due.is(25, "can", x.can(0), 1);
            Due.is(26, "choose", x.choose(999), 0);
            Due.is(27, "blind", x.blind(0), 0);
            Due.is(29, "many", x.many(0, 1), 1);
            Due.is(29, "many", x.many(0, 500), 1);
            Due.is(38, "settle", x.settle(0), STATE);
            Due.is(39, "left", x.left(0), STATE);
            Due.is(60, "STATE", x.status(15), 2);
        }
    }

    private static void pairs() {
        DeedCourt x = Due.land(2, "0 edge or holds 1 year 4", "1 north 0 year 5");
        Due.is(26, "choose", x.choose(0), 1);
        Due.is(28, "the first of all", x.told(0, 1, 0), 0);
        Due.is(29, "many", x.many(0, 500), 8);
        Due.is(29, "many", x.many(0, 7), 7);
        Due.is(28, "the first of these", x.told(0, 1, 4), 3);
        Due.is(28, "the other way", x.told(1, 0, 4), 5);
        Due.is(29, "many", x.many(4, 500), 2);
        Due.is(29, "many", x.many(4, 1), 1);
        Due.is(25, "can", x.can(4), 1);
        Due.is(25, "can", x.can(5), 0);
        Due.is(26, "it ends at once", x.choose(5), 0);
        Due.is(27, "none is blind", x.blind(5), 0);
        Due.is(28, "none is told", x.told(0, 1, 5), -1);
        Due.is(29, "none", x.many(5, 500), 0);
        int tellings = 0;
        for (int way = 0; way < 64; way++) {
            tellings += Integer.bitCount(x.three(way / 8, way % 8));
        }
        Due.is(29, "three fields: by THREE", Due.land(3).many(0, 500), tellings);
        Due.is(29, "most", Due.land(10).many(0, 500), 500);
    }

    private static void choices() {
        DeedCourt x = Due.land(10, "0 same 9");
        Due.is(26, "one for each pair", x.choose(0), 45);
        Due.is(27, "none is blind", x.blind(0), 0);
        Due.is(28, "told", x.told(0, 9, 0), 7);
        Due.is(28, "told", x.told(8, 9, 0), 0);
    }

    private static void rings() {
        DeedCourt x = Due.land(2, "0 north 1", "1 north 0 year 3");
        Due.is(25, "no ring", x.can(2), 1);
        Due.is(25, "a ring", x.can(3), 0);
        Due.is(26, "the search doesn't ask for rings", x.choose(3), 1);
        Due.is(28, "nor do tellings", x.told(0, 1, 3), 0);
        Due.is(29, "nor do tellings", x.many(3, 9), 2);
        Due.is(30, "nor do they", x.may(0, 1, 3), 3);
        DeedCourt y = Due.land(3, "0 east 1", "1 east 2", "2 east 0 year 1", "0 larger 1", "1 larger 2");
        Due.is(25, "no ring", y.can(0), 1);
        Due.is(25, "a ring of east", y.can(1), 0);
        DeedCourt z = Hard.land(5);
        Due.deed(z, "0 larger 1");
        Due.deed(z, "1 larger 0");
        Due.is(25, "with a ring no search is made, so none is spent", z.can(0), 0);
        Due.is(60, "STATE", z.status(15), 0);
        z.drop(7, true);
        Due.is(25, "without it one is", z.can(0), STATE);
    }

    private static void blind() {
        // By shrinking 0 to 1 has APART, TOUCH, .. as it may; the ways that are tried first don't stand.
        DeedCourt x = Due.land(4, "0 apart or round 2", "2 round or inside 3", "1 same or touch 3", "0 inside or round 3",
            "1 inside or holds 2");
        Due.is(27, "blind", x.blind(0), 3);
        Due.is(26, "choose", x.choose(0), 9);
        Due.is(29, "many", x.many(0, 500), 3);
        Due.is(25, "can", x.can(0), 1);
        DeedCourt y = Hard.land(0);
        Due.is(23, "shrinking doesn't tell", y.shrink(0) >= 0 ? 1 : 0, 1);
        Due.is(25, "it can't be", y.can(0), 0);
        Due.is(27, "all are blind", y.blind(0), 3);
        Due.is(26, "three are tried for 0 and 1", y.choose(0), 3);
        Due.is(28, "none is told", y.told(0, 1, 0), -1);
        Due.is(29, "none", y.many(0, 500), 0);
        Due.is(30, "none", y.may(0, 1, 0), 0);
        Due.is(31, "none", y.must(0, 1, 0), -1);
        Due.is(38, "none", y.settle(0), -1);
        Due.is(39, "none", y.left(0), 0);
        Due.is(42, "none", y.lay(0), -1);
    }

    private static void spent() {
        DeedCourt x = Hard.land(5);
        Due.is(25, "can", x.can(0), STATE);
        Due.is(26, "choose", x.choose(0), STATE);
        Due.is(27, "blind", x.blind(0), STATE);
        Due.is(28, "told", x.told(0, 1, 0), STATE);
        Due.is(29, "many", x.many(0, 1), STATE);
        Due.is(30, "may", x.may(0, 1, 0), STATE);
        Due.is(31, "must", x.must(0, 1, 0), STATE);
        Due.is(42, "lay", x.lay(0), STATE);
        Due.is(23, "shrink makes no search", x.shrink(0) >= 0 ? 1 : 0, 1);
        Due.is(60, "STATE", x.status(15), 8);
        DeedCourt y = Due.land(4);
        Due.is(38, "too many tellings", y.settle(0), STATE);
        Due.is(39, "too many tellings", y.left(0), STATE);
        Due.is(29, "500 are there ahead of that", y.many(0, 500), 500);
        Due.is(60, "STATE", y.status(15), 2);
    }

    private static void may() {
        DeedCourt x = Due.land(3, "0 inside 1", "1 edge 2 year 1", "2 touch 0 year 2");
        Due.is(30, "all", x.may(0, 2, 0), 255);
        Due.is(31, "more than one", x.must(0, 2, 0), -1);
        Due.is(30, "one", x.may(2, 0, 1), 64);
        Due.is(31, "one", x.must(2, 0, 1), 6);
        Due.is(31, "the other way", x.must(0, 2, 1), 4);
        Due.is(30, "none", x.may(0, 2, 2), 0);
        Due.is(31, "none", x.must(0, 2, 2), -1);
        // Of 0 and 1 shrinking leaves more than there are tellings with.
        DeedCourt y = Due.land(4, "0 apart or round 2", "2 round or inside 3", "1 same or touch 3", "0 inside or round 3",
            "1 inside or holds 2");
        for (int b = 1; b < 4; b++) {
            int may = y.may(0, b, 0);
            Due.is(30, "the first telling is one of these", may >> y.told(0, b, 0) & 1, 1);
            Due.is(30, "no more than are known", may & ~y.known(0, b, 0), 0);
            Due.is(30, "the other way", y.may(b, 0, 0), y.turned(may));
        }
    }

    private static void settle() {
        DeedCourt x = Due.land(2);
        Due.is(38, "a pair", x.settle(0), 1);
        Due.is(39, "one for each way", x.left(0), 1);
        DeedCourt y = Due.land(3);
        Due.is(38, "all the same: the first", y.settle(0), 1);
        Due.is(39, "row OVER of THREE has the most", y.left(0), 35);
        DeedCourt z = Due.land(3, "0 same 1", "0 holds 1 year 5", "0 holds 2 year 5");
        Due.is(38, "that of 0 and 1 is known", z.settle(0), 2);
        Due.is(39, "one is left", z.left(0), 1);
        z.drop(0, true);
        Due.is(38, "only that of 1 and 2 isn't known", z.settle(5), 102);
        Due.is(39, "one is left", z.left(5), 1);
        z.drop(0, false);
        Due.is(38, "no telling", z.settle(5), -1);
        Due.is(39, "no telling", z.left(5), 0);
        DeedCourt four = Due.land(4, "0 same 1", "0 same 2", "0 edge or inside 3");
        Due.is(38, "0 to 3", four.settle(0), 3);
        Due.is(39, "0 to 3", four.left(0), 1);
        DeedCourt five = Due.land(5, "0 same 1", "0 same 2", "0 same 3", "0 same 4");
        Due.is(38, "five fields", five.settle(0), STATE);
        Due.is(39, "five fields", five.left(0), STATE);
    }

    private static void bad() {
        DeedCourt x = Due.land(2);
        for (int year : new int[] {-1, 1000}) {
            Due.is(25, "can", x.can(year), BAD);
            Due.is(26, "choose", x.choose(year), BAD);
            Due.is(27, "blind", x.blind(year), BAD);
            Due.is(28, "told", x.told(0, 1, year), BAD);
            Due.is(29, "many", x.many(year, 1), BAD);
            Due.is(30, "may", x.may(0, 1, year), BAD);
            Due.is(31, "must", x.must(0, 1, year), BAD);
            Due.is(38, "settle", x.settle(year), BAD);
            Due.is(39, "left", x.left(year), BAD);
        }
        int[][] two = {{0, 0}, {1, 1}, {-1, 0}, {0, -1}, {2, 0}, {0, 2}};
        for (int[] t : two) {
            Due.is(28, "told", x.told(t[0], t[1], 0), BAD);
            Due.is(30, "may", x.may(t[0], t[1], 0), BAD);
            Due.is(31, "must", x.must(t[0], t[1], 0), BAD);
        }
        Due.is(29, "many", x.many(0, 0), BAD);
        Due.is(29, "many", x.many(0, 501), BAD);
        Due.is(29, "many", x.many(0, -1), BAD);
        Due.is(60, "BAD", x.status(12), 18 + 18 + 3);
        DeedCourt one = Due.land(1);
        Due.is(38, "a bad year ahead of STATE", one.settle(1000), BAD);
        Due.is(39, "a bad year ahead of STATE", one.left(-1), BAD);
    }
}
