/** Promises 46 to 51: grounds, how fields lie by them, and what is right by them. */
public final class GroundsTest {
    private static final int BAD = -2;
    private static final int OTHER = -3;
    private static final int NOTHING = -4;

    private GroundsTest() {
    }

    public static void main(String[] args) {
        grounds();
        lies();
        rim();
        judged();
        orders();
        right();
        gone();
        whole();
        Due.end("GroundsTest");
    }

    private static void grounds() {
        DeedCourt x = Due.land(2);
        x.row(0, 3, 64);
        x.set(0, 0, -1);
        x.set(0, 63, 1L << 63);
        x.set(0, 10, 7);
        Due.is(46, "ground", x.ground(0, 0), 3);
        Due.is(47, "groundOf", x.groundOf(0), 1L | 1L << 10 | 1L << 63);
        Due.is(47, "the other has none", x.groundOf(1), 0);
        x.row(1, 0, 5);
        x.set(1, 4, 1);
        Due.is(46, "a shorter row", x.ground(0, 1), 1);
        Due.is(47, "groundOf", x.groundOf(0), 16);
        x.set(1, 4, 256);
        Due.is(47, "the ground stays", x.groundOf(0), 16);
        Due.is(46, "an empty one", x.ground(0, 1), 0);
        Due.is(47, "groundOf", x.groundOf(0), 0);
        x.row(2, 4, 0);
        Due.is(46, "a row of none", x.ground(1, 2), 0);
        x.show(3, 0);
        Due.is(46, "no field", x.ground(2, 3), BAD);
        Due.is(46, "no field", x.ground(-1, 0), BAD);
        Due.is(46, "no shelf", x.ground(0, 8), BAD);
        Due.is(46, "no shelf", x.ground(0, -1), BAD);
        Due.is(46, "a field", x.ground(0, 3), OTHER);
        Due.is(46, "nothing", x.ground(0, 4), NOTHING);
        int refused = x.status(12);
        Due.is(47, "no field", x.groundOf(2), 0);
        Due.is(47, "no field", x.groundOf(-1), 0);
        Due.is(47, "nothing is refused", x.status(12), refused);
    }

    private static void two(String name, int way, String[] a, String... b) {
        DeedCourt x = Due.land(2);
        Due.draw(x, 0, a);
        Due.draw(x, 1, b);
        Due.is(48, name, x.lies(0, 1), way);
        Due.is(48, name + ", the other way", 1 << x.lies(1, 0), x.turned(1 << way));
    }

    private static String[] rows(String... rows) {
        return rows;
    }

    private static void lies() {
        two("apart", 0, rows("##", "##"), "   ##", "   ##");
        two("apart by a corner", 0, rows("##", "##"), "", "", "  ##", "  ##");
        two("touch", 1, rows("##", "##"), "  ##", "  ##");
        two("touch below", 1, rows("##", "##"), "", "", " ##");
        two("apart: rows don't go on in the next one", 0, rows("       #"), "", "#");
        two("over", 2, rows("##", "##"), "", " ##");
        two("edge", 3, rows("##", "##"), "###", "###");
        two("inside", 4, rows("", " ##"), "####", "####", "####");
        two("edge by one side", 3, rows("", " ##"), "####", "####", " #");
        two("inside by all sides", 4, rows("", " ##"), "####", "####", " ##");
        two("inside: a corner that isn't of it is not next", 4, rows("", " #"), " # ", "###", " # ");
        two("same", 7, rows("# #"), "# #");
        DeedCourt x = Due.land(2);
        Due.is(48, "both are empty", x.lies(0, 1), -1);
        Due.draw(x, 0, "#");
        Due.is(48, "one is empty", x.lies(0, 1), -1);
        Due.is(48, "one is empty", x.lies(1, 0), -1);
        int[][] bad = {{0, 0}, {1, 1}, {-1, 0}, {0, -1}, {2, 0}, {0, 2}};
        for (int[] b : bad) {
            Due.is(48, "lies bad", x.lies(b[0], b[1]), BAD);
        }
    }

    private static void rim() {
        // Behind the board's rim there are no cells.
        two("inside at a corner", 4, rows("##", "##"), "###", "###", "###");
        two("inside at the other corner", 4, rows("", "", "", "", "", "", "", "       #"), "", "", "", "", "", "", "       #", "      ##");
        two("inside along a side", 4, rows("########"), "########", "########");
        String all = "########";
        two("inside the whole board", 4, rows("##", "##"), all, all, all, all, all, all, all, all);
    }

    private static void judged() {
        DeedCourt x = Due.land(3, "0 within 1 year 5", "1 not touch 2", "2 old 0 1", "2 touch or over 0 year 9");
        Due.is(49, "an empty ground is not so", x.judge(999), 0);
        Due.is(49, "as of a year", x.judge(4), 1);
        Due.draw(x, 0, "#");
        Due.draw(x, 1, "##");
        Due.is(49, "the first is so", x.judge(8), 1);
        Due.draw(x, 2, "   #");
        Due.is(49, "apart", x.judge(8), -1);
        Due.is(49, "the last isn't so", x.judge(9), 3);
        x.mean(0, 1);
        Due.is(49, "by what the old word means", x.judge(8), 2);
        x.drop(2, true);
        Due.is(49, "a dropped one isn't asked", x.judge(8), -1);
        Due.draw(x, 2, "  #");
        Due.is(49, "touch", x.judge(8), 1);
        Due.draw(x, 2);
        Due.is(49, "an empty ground", x.judge(0), 1);
        Due.is(49, "no year", x.judge(-1), BAD);
        Due.is(49, "no year", x.judge(1000), BAD);
        Due.is(49, "no deeds", new DeedCourt().judge(0), -1);
    }

    private static void order(String deed, int due, String[] a, String... b) {
        DeedCourt x = Due.land(2, deed);
        Due.draw(x, 0, a);
        Due.draw(x, 1, b);
        Due.is(49, deed, x.judge(0), due);
    }

    private static void orders() {
        order("0 north 1", -1, rows("  #", "#"), "", "", "#");
        order("0 north 1", 0, rows("  #", "#"), "", " #");
        order("0 north 1", 0, rows("", "", "#"), "#");
        order("0 north 1", 0, rows("#"), "");
        order("0 north 1", 0, rows(""), "", "#");
        order("0 east 1", -1, rows("#  #"), "  #", "##");
        order("0 east 1", 0, rows("#  #"), "   #", "#");
        order("0 east 1", 0, rows("###"), "   #");
        order("0 east 1", -1, rows("       #"), "      #");
        order("0 east 1", 0, rows("#"), "");
        order("0 larger 1", -1, rows("###"), "", " ##");
        order("0 larger 1", 0, rows("##"), "", " ##");
        order("0 larger 1", 0, rows("#"), "##");
        order("0 larger 1", 0, rows("#"), "");
    }

    /** A ground is right for the kinds up to one, and for no more. */
    private static void rightUpTo(int most, String... rows) {
        for (int kind = 0; kind <= 3; kind++) {
            DeedCourt x = new DeedCourt();
            x.field(kind, 0);
            Due.draw(x, 0, rows);
            Due.is(50, "right of kind " + kind + ": " + String.join("/", rows), x.right(0), kind <= most ? 1 : 0);
        }
    }

    private static void right() {
        rightUpTo(-1, "");
        rightUpTo(0, "# #");
        rightUpTo(0, "#", " #");
        rightUpTo(0, "       #", "#");
        rightUpTo(1, "###", "# #", "###");
        rightUpTo(1, "", "  ####", "  #  #", "  ## #", "   ###");
        rightUpTo(2, "###", "# #", "# #");
        rightUpTo(2, "##", "#");
        rightUpTo(2, "########", "#", "#");
        rightUpTo(2, "", " # #", " ###");
        rightUpTo(3, "#");
        rightUpTo(3, "", "", "", "", "", "", "", "       #");
        rightUpTo(3, "", " ###", " ###");
        String all = "########";
        rightUpTo(3, all, all, all, all, all, all, all, all);
        rightUpTo(3, " ######", " ######", " ######", " ######", " ######", " ######", " ######", " ######");
        // A hole that comes by a corner alone to the rim doesn't come there.
        rightUpTo(1, " ##", "# #", "###");
        rightUpTo(2, "  ##", "# #", "###");
        // A way out that winds.
        rightUpTo(2, "########", "#      #", "# #### #", "# #  # #", "# # ## #", "# #    #", "# ######", "#");
        rightUpTo(1, "########", "#      #", "# #### #", "# #  # #", "# # ## #", "# #    #", "# ######", "########");
        DeedCourt x = Due.land(1);
        Due.is(50, "no field", x.right(1), BAD);
        Due.is(50, "no field", x.right(-1), BAD);
    }

    private static void gone() {
        DeedCourt x = new DeedCourt();
        x.field(3, 0);
        Due.draw(x, 0, "# #", "", "##");
        Due.is(50, "no box", x.right(0), 0);
        x.part(0, 5);
        Due.is(50, "the parts have none yet", x.right(0), 0);
        Due.draw(x, 1, "# #");
        Due.is(50, "not all of it", x.right(0), 0);
        Due.draw(x, 2, "", "", "##");
        Due.is(50, "together", x.right(0), 1);
        Due.draw(x, 2, "#", "", "##");
        Due.is(50, "they share one", x.right(0), 0);
        Due.draw(x, 2, "", "", "###");
        Due.is(50, "more than it", x.right(0), 0);
        Due.draw(x, 0);
        Due.draw(x, 1);
        Due.draw(x, 2);
        Due.is(50, "all are empty", x.right(0), 0);
        Due.draw(x, 0, "##");
        Due.draw(x, 2, "##");
        Due.is(50, "one part is all of it", x.right(0), 1);
    }

    private static void whole() {
        DeedCourt x = Due.land(4);
        Due.is(51, "all are empty", x.whole(0, 14), 1);
        Due.draw(x, 0, "###");
        Due.draw(x, 1, "#");
        Due.draw(x, 2, " #");
        Due.draw(x, 3, " ##");
        Due.is(51, "together", x.whole(0, 10), 1);
        Due.is(51, "not all of it", x.whole(0, 6), 0);
        Due.is(51, "they share one", x.whole(0, 14), 0);
        Due.is(51, "itself", x.whole(0, 1), 1);
        Due.is(51, "itself and one of its cells", x.whole(0, 3), 0);
        Due.is(51, "more than it", x.whole(3, 10), 0);
        Due.is(51, "an empty set", x.whole(0, 0), BAD);
        Due.is(51, "a field that isn't", x.whole(0, 16), BAD);
        Due.is(51, "a field that isn't", x.whole(0, 10 | 1 << 30), BAD);
        Due.is(51, "a field that isn't", x.whole(0, 10 | 1 << 31), BAD);
        Due.is(51, "a field that isn't", x.whole(0, -1), BAD);
        Due.is(51, "no field", x.whole(4, 1), BAD);
        Due.is(51, "no field", x.whole(-1, 1), BAD);
        DeedCourt ten = Due.land(10);
        Due.is(51, "all ten", ten.whole(9, 1023), 1);
        Due.is(51, "no eleventh", ten.whole(9, 1024), BAD);
    }
}
