/** The boundaries that promises 46 to 51 name: GROUNDS from empty to the whole board, its rim, each KIND's edge. */
public final class GroundsEdgesTest {
    private static final int NONE = Due.NONE;
    private static final int BAD = Due.BAD;
    private static final String ALL = "########";
    private static final String[] BOARD = {ALL, ALL, ALL, ALL, ALL, ALL, ALL, ALL};

    private GroundsEdgesTest() {
    }

    public static void main(String[] args) {
        rows();
        sorts();
        grounds();
        oneCell();
        nextCells();
        rims();
        emptyGrounds();
        judgeNorth();
        judgeEast();
        judgeLarger();
        judgeWays();
        judgeYears();
        rightField();
        rightPiece();
        rightDisc();
        oneCellOut();
        rightBox();
        rightGone();
        whole();
        wholeOfEachTwo();
        Due.end("GroundsEdgesTest");
    }

    private static String[] rowsOf(String... rows) {
        return rows;
    }

    /** "the cells i of which the ROW in SHELF s has an element that isn't 0": ROWS of 0 to 64 elements. */
    private static void rows() {
        for (int n : new int[] {0, 1, 8, 63, 64}) {
            DeedCourt x = Due.land(1);
            Due.draw(x, 0, BOARD);
            Due.is(47, "the whole board", x.groundOf(0), -1L);
            x.row(0, 2, n);
            for (int i = 0; i < n; i++) {
                x.set(0, i, i + 1);
            }
            Due.is(46, "a ROW of " + n, x.ground(0, 0), n);
            Due.is(47, "its cells alone", x.groundOf(0), n == 64 ? -1L : (1L << n) - 1);
            x.row(1, 2, n);
            Due.is(46, "a ROW of zeros", x.ground(0, 1), 0);
            Due.is(47, "none", x.groundOf(0), 0);
        }
        DeedCourt x = Due.land(10);
        x.row(7, 4, 64);
        for (int i = 0; i < 64; i++) {
            x.set(7, i, 1);
            Due.is(46, "one cell", x.ground(9, 7), 1);
            Due.is(47, "cell " + i, x.groundOf(9), 1L << i);
            x.set(7, i, 0);
        }
        Due.is(46, "no FIELD", x.ground(10, 7), BAD);
        Due.is(46, "no FIELD", x.ground(-1, 7), BAD);
        Due.is(47, "none of that number", x.groundOf(10), 0);
        Due.is(47, "none of that number", x.groundOf(-1), 0);
        Due.is(60, "BAD", x.status(12), 2);
    }

    /** Of each SORT: the least, the greatest, what is 0 by its lowest bits. */
    private static void sorts() {
        long[] high = {256, 65536, 1L << 32, 0, 0};
        for (int sort = 0; sort <= 4; sort++) {
            DeedCourt x = Due.land(1);
            x.row(0, sort, 64);
            x.set(0, 0, -1);
            x.set(0, 1, 1);
            x.set(0, 2, high[sort]);
            x.set(0, 3, high[sort] + 1);
            x.set(0, 63, high[sort] - 1);
            Due.is(46, "SORT " + sort, x.ground(0, 0), 4);
            Due.is(47, "SORT " + sort, x.groundOf(0), 11 | 1L << 63);
        }
        DeedCourt x = Due.land(1);
        x.row(0, 3, 64);
        x.set(0, 5, Long.MIN_VALUE);
        x.set(0, 6, 1L << 32);
        Due.is(46, "longs", x.ground(0, 0), 2);
    }

    /** The ground stays when the ROW changes, and is another one with the next call. */
    private static void grounds() {
        DeedCourt x = Due.land(2);
        x.row(0, 4, 2);
        x.set(0, 1, 1);
        x.ground(0, 0);
        x.set(0, 0, 1);
        Due.is(47, "as the ROW was then", x.groundOf(0), 2);
        Due.is(47, "of that FIELD alone", x.groundOf(1), 0);
        x.show(0, 0);
        Due.is(46, "a FIELD", x.ground(0, 0), Due.OTHER);
        x.show(0, NONE);
        Due.is(46, "NOTHING", x.ground(0, 0), Due.NOTHING);
        Due.is(47, "it stays", x.groundOf(0), 2);
        x.part(0, 0);
        Due.draw(x, 0, "###");
        Due.is(47, "GONE: it has a GROUND, too", x.groundOf(0), 7);
    }

    private static void two(String name, int way, String[] a, String... b) {
        DeedCourt x = Due.land(2, "0 " + Due.WAYS[way] + " 1");
        Due.draw(x, 0, a);
        Due.draw(x, 1, b);
        Due.is(48, name, x.lies(0, 1), way);
        Due.is(48, name + ", TURNED", 1 << x.lies(1, 0), x.turned(1 << way));
        Due.is(49, name + ": so is the DEED", x.judge(0), NONE);
        Due.deed(x, "0 not " + Due.WAYS[way] + " 1");
        Due.is(49, name + ": so isn't the other", x.judge(0), 1);
    }

    /** Each cell to each: "cells are NEXT to each other that share a side", and row 0's last isn't next to row 1's first. */
    private static void oneCell() {
        for (int i = 0; i < 64; i += 7) {
            DeedCourt x = Due.land(2);
            x.row(0, 4, 64);
            x.row(1, 4, 64);
            x.set(0, i, 1);
            x.ground(0, 0);
            for (int j = 0; j < 64; j++) {
                x.set(1, j, 1);
                x.ground(1, 1);
                int far = Math.abs(i / 8 - j / 8) + Math.abs(i % 8 - j % 8);
                Due.is(48, i + " to " + j, x.lies(0, 1), far == 0 ? 7 : far == 1 ? 1 : 0);
                x.set(1, j, 0);
            }
        }
    }

    private static void nextCells() {
        two("by a corner", 0, rowsOf("#"), "", " #");
        two("by a side", 1, rowsOf("#"), " #");
        two("by a side, below", 1, rowsOf("#"), "", "#");
        two("row 0's last, row 1's first", 0, rowsOf("       #"), "", "#");
        two("row 7's first, row 6's last", 0, rowsOf("", "", "", "", "", "", "", "#"), "", "", "", "", "", "", "       #");
        two("the first and the last row", 0, rowsOf(ALL), "", "", "", "", "", "", "", ALL);
        two("the halves of the board", 1, rowsOf(ALL, ALL, ALL, ALL), "", "", "", "", ALL, ALL, ALL, ALL);
        two("they share one, each has another", 2, rowsOf("##"), " ##");
        two("they share one, that is all of a", 3, rowsOf("#"), "##");
        two("they share one, that is all of b", 5, rowsOf("##"), "#");
        two("of two that aren't next to each other", 3, rowsOf("#"), "#  #");
        two("of two that aren't next to each other, b", 5, rowsOf("#  #"), "#");
        two("one cell each", 7, rowsOf("#"), "#");
        two("the whole board twice", 7, BOARD, BOARD);
    }

    /** "a cell of a is NEXT to one that isn't of b": behind the rim there is none. */
    private static void rims() {
        two("a corner of the board, INSIDE by two sides", 4, rowsOf("#"), "##", "#");
        two("a corner, one of them isn't", 3, rowsOf("#"), "##");
        two("the last corner", 4, rowsOf("", "", "", "", "", "", "", "       #"), "", "", "", "", "", "", "       #", "      ##");
        two("the east side", 4, rowsOf("", "       #"), "       #", "      ##", "       #");
        two("the west side", 4, rowsOf("", "#"), "#", "##", "#");
        two("the west side: the cell ahead of it is in another row", 4, rowsOf("", "#"), "#", "##", "#");
        two("a cell of the board", 4, rowsOf("", "", "", " #"), BOARD);
        two("all but a corner: behind it there is none", 4, rowsOf("#######", ALL, ALL, ALL, ALL, ALL, ALL, ALL), BOARD);
        two("all but a cell within", 4, rowsOf(ALL, ALL, ALL, "### ####", ALL, ALL, ALL, ALL), BOARD);
        two("a ring's cells about a hole that is of b", 4, rowsOf("", " ###", " # #", " ###"), BOARD);
        two("a ring's cells about a hole that isn't", 3, rowsOf("", " ###", " # #", " ###"), ALL, ALL, "## #####", ALL, ALL);
        two("what holds the board's rim", 6, BOARD, "#");
    }

    /** "NONE: one is empty". */
    private static void emptyGrounds() {
        DeedCourt x = Due.land(3);
        Due.is(48, "both", x.lies(0, 1), NONE);
        Due.draw(x, 0, "#");
        Due.is(48, "b", x.lies(0, 1), NONE);
        Due.is(48, "a", x.lies(1, 0), NONE);
        Due.draw(x, 1, "#");
        Due.is(48, "none", x.lies(0, 1), 7);
        Due.draw(x, 0);
        Due.is(48, "again", x.lies(0, 1), NONE);
        Due.is(48, "a and itself, too", x.lies(1, 1), BAD);
        Due.is(48, "no FIELD", x.lies(3, 0), BAD);
        Due.is(48, "no FIELD", x.lies(0, -1), BAD);
        Due.is(60, "BAD", x.status(12), 3);
    }

    private static void judged(String deed, boolean isSo, String[] a, String... b) {
        DeedCourt x = Due.land(2, deed);
        Due.draw(x, 0, a);
        Due.draw(x, 1, b);
        Due.is(49, deed, x.judge(0), isSo ? NONE : 0);
    }

    /** "NORTH: each row of the first has a lesser number than each of the second". */
    private static void judgeNorth() {
        judged("0 north 1", true, rowsOf("#"), "", "#");
        judged("0 north 1", false, rowsOf("#"), "#");
        judged("0 north 1", false, rowsOf("#"), " #");
        judged("0 north 1", false, rowsOf("", "#"), "#");
        judged("0 north 1", true, rowsOf("#"), "", "", "", "", "", "", "", "#");
        judged("0 north 1", true, rowsOf("", "", "", "", "", "", "#"), "", "", "", "", "", "", "", "#");
        judged("0 north 1", true, rowsOf(ALL, ALL, ALL), "", "", "", ALL, ALL, ALL, ALL, ALL);
        judged("0 north 1", false, rowsOf(ALL, ALL, ALL, "#"), "", "", "", " #", ALL);
        judged("0 north 1", false, rowsOf("#", "", "", "#"), "", "", "#");
        judged("0 north 1", false, rowsOf(""), "", "#");
        judged("0 north 1", false, rowsOf("#"), "");
        judged("0 north 1", false, rowsOf(""), "");
    }

    /** "EAST: the first has a column of a greater number than all of the second". */
    private static void judgeEast() {
        judged("0 east 1", true, rowsOf(" #"), "#");
        judged("0 east 1", false, rowsOf("#"), "#");
        judged("0 east 1", false, rowsOf("#"), " #");
        judged("0 east 1", false, rowsOf("       #"), "", "       #");
        judged("0 east 1", true, rowsOf("       #"), ALL.substring(1), ALL.substring(1));
        judged("0 east 1", true, rowsOf("#  #"), " ##");
        judged("0 east 1", false, rowsOf("#  #"), "", "", "", "", "", "", "", "   #");
        judged("0 east 1", true, rowsOf("", "", "", "", "", "", "", " #"), "#");
        judged("0 east 1", false, rowsOf(""), "#");
        judged("0 east 1", false, rowsOf(" #"), "");
    }

    /** "LARGER: more cells". */
    private static void judgeLarger() {
        judged("0 larger 1", true, rowsOf("##"), "#");
        judged("0 larger 1", false, rowsOf("##"), "##");
        judged("0 larger 1", false, rowsOf("##"), "", "##");
        judged("0 larger 1", false, rowsOf("#"), "##");
        judged("0 larger 1", true, BOARD, ALL, ALL, ALL, ALL, ALL, ALL, ALL, "#######");
        judged("0 larger 1", false, BOARD, BOARD);
        judged("0 larger 1", false, rowsOf("#"), "");
        judged("0 larger 1", false, rowsOf(""), "#");
    }

    /** "of all DEEDS: an empty GROUND is not so"; a DEED that lets all, or nothing. */
    private static void judgeWays() {
        judged("0 old 0 1", true, rowsOf("#"), "#");
        judged("0 old 0 1", false, rowsOf(""), "#");
        judged("0 old 0 1", false, rowsOf("#"), "");
        judged("0 not old 0 1", true, rowsOf("#"), "   #");
        judged("0 not apart or touch or over or within or round or holds or same 1", false, rowsOf("#"), "#");
        judged("0 apart or touch or over or within or round or holds or same 1", true, rowsOf("#"), "#");
        judged("0 apart or touch or over or within or round or holds or same 1", false, rowsOf("#"), "");
        DeedCourt x = Due.land(3, "0 over 1", "1 same 2", "2 apart 0");
        Due.is(49, "the first of all", x.judge(0), 0);
        Due.draw(x, 0, "##");
        Due.draw(x, 1, " ##");
        Due.draw(x, 2, " ##");
        Due.is(49, "the last isn't so", x.judge(0), 2);
        Due.draw(x, 2, "   #");
        Due.is(49, "the second isn't so", x.judge(0), 1);
        x.drop(1, true);
        Due.is(49, "all are", x.judge(0), NONE);
        Due.is(49, "no DEEDS", Due.land(2).judge(0), NONE);
    }

    private static void judgeYears() {
        for (int year : new int[] {0, 1, 998, 999}) {
            DeedCourt x = Due.land(2, "0 over 1 year " + year);
            if (year > 0) {
                Due.is(49, "the year ahead of it", x.judge(year - 1), NONE);
            }
            Due.is(49, "its own YEAR", x.judge(year), 0);
            Due.is(49, "the last YEAR", x.judge(999), 0);
            Due.is(49, "YEAR -1", x.judge(-1), BAD);
            Due.is(49, "YEAR 1000", x.judge(1000), BAD);
        }
        DeedCourt x = Due.land(2);
        for (int d = 0; d < 24; d++) {
            Due.deed(x, d == 23 ? "0edge1" : "0over1");
        }
        Due.draw(x, 0, "##");
        Due.draw(x, 1, " ##");
        Due.is(49, "the last of 24", x.judge(0), 23);
    }

    private static void right(int kind, boolean isRight, String... rows) {
        DeedCourt x = new DeedCourt();
        x.field(kind, 0);
        Due.draw(x, 0, rows);
        Due.is(50, "KIND " + kind + ": " + String.join("/", rows), x.right(0), isRight ? 1 : 0);
    }

    /** "its GROUND, which isn't empty: FIELD: any". */
    private static void rightField() {
        for (int kind = 0; kind <= 3; kind++) {
            right(kind, false, "");
            right(kind, true, "#");
            right(kind, true, "       #");
            right(kind, true, "", "", "", "", "", "", "", "#");
            right(kind, true, "", "", "", "", "", "", "", "       #");
            right(kind, true, "", "", "", "   #");
            right(kind, true, BOARD);
        }
        right(0, true, "# #");
        right(0, true, "#", "", "", "", "", "", "", "       #");
        DeedCourt x = Due.land(1);
        Due.is(50, "no FIELD", x.right(1), BAD);
        Due.is(50, "no FIELD", x.right(-1), BAD);
    }

    /** "PIECE: one comes from each of its cells to each by NEXT ones of it". */
    private static void rightPiece() {
        right(1, false, "# #");
        right(1, false, "#", " #");
        right(1, true, "##", " #");
        right(1, false, "       #", "#");
        right(1, false, ALL, "", ALL);
        right(1, true, ALL, "       #", ALL, "#", ALL, "       #", ALL, "#");
        right(1, false, ALL, "       #", ALL, "#", ALL, "       #", "####### ", "       #");
        right(1, true, "# #", "# #", "# #", "# #", "# #", "# #", "# #", "###");
        right(1, false, "# #", "# #", "# #", "# #", "# #", "# #", "# #", "# #");
        right(1, true, "###", "# #", "###");
    }

    /** "DISC: a PIECE, and from each cell that isn't of it one comes .. to a cell of row 0 or 7, or column 0 or 7." */
    private static void rightDisc() {
        right(2, false, "# #");
        right(2, false, "", " ###", " # #", " ###");
        right(2, false, "###", "# #", "###");
        right(2, true, "# #", "# #", "###");
        right(2, true, "# #", "###");
        right(2, true, "###", "  #", "###");
        right(2, true, "", "", "", "", "", "###", "# #", "# #");
        right(2, true, "     ###", "     #  ", "     ###");
        right(2, false, "     ###", "     # #", "     ###");
        right(2, false, "", "", "", "", "", "###", "# #", "###");
        right(2, false, ALL, "#      #", "#      #", "#      #", "#      #", "#      #", "#      #", ALL);
        right(2, true, ALL, "#      #", "#      #", "#      #", "#      #", "#      #", "#      #", "### ####");
        right(2, true, ALL, "#      #", "#      #", "#       ", "#      #", "#      #", "#      #", ALL);
        right(2, false, ALL, ALL, ALL, "### ####", ALL, ALL, ALL, ALL);
        right(2, true, "### ####", ALL, ALL, ALL, ALL, ALL, ALL, ALL);
        // By a corner alone one doesn't come out.
        right(2, false, "## #", "# ##", "####");
        right(2, false, ALL, "# ######", "## #####", ALL, ALL, ALL, ALL, ALL);
        right(2, true, "# ######", "# ######", ALL, ALL, ALL, ALL, ALL, ALL);
    }

    /** "to a cell of row 0 or 7, or column 0 or 7": the whole board but one cell, whichever. */
    private static void oneCellOut() {
        for (int out = 0; out < 64; out++) {
            DeedCourt x = new DeedCourt();
            x.field(2, 0);
            x.row(0, 4, 64);
            for (int i = 0; i < 64; i++) {
                x.set(0, i, i == out ? 0 : 1);
            }
            Due.is(46, "all but cell " + out, x.ground(0, 0), 63);
            boolean isRim = out < 8 || out >= 56 || out % 8 == 0 || out % 8 == 7;
            Due.is(50, "a DISC, all but cell " + out, x.right(0), isRim ? 1 : 0);
        }
    }

    /** "BOX: a DISC that is all cells of some rows and columns without a gap". */
    private static void rightBox() {
        right(3, true, "##", "##");
        right(3, true, "", "", "", "  ####");
        right(3, true, "   #", "   #", "   #", "   #", "   #", "   #", "   #", "   #");
        right(3, true, ALL);
        right(3, true, "", "", "", "", "", "", "", ALL);
        right(3, true, " #######", " #######", " #######", " #######", " #######", " #######", " #######", " #######");
        right(3, false, "##", "#");
        right(3, false, "#", "##");
        right(3, false, "##", "##", " ##");
        right(3, false, "# #");
        right(3, false, "#", "", "#");
        right(3, false, "## ##", "## ##");
        right(3, false, "##", "", "##");
        right(3, false, "###", "# #", "###");
        right(3, false, " #", "##", "##");
        right(3, false, "#######", ALL, ALL, ALL, ALL, ALL, ALL, ALL);
        right(3, false, ALL, ALL, ALL, "### ####", ALL, ALL, ALL, ALL);
    }

    private static void gone(int kind, boolean isRight, String[] whole, String[] first, String... second) {
        DeedCourt x = new DeedCourt();
        x.field(kind, 0);
        x.part(0, 0);
        Due.draw(x, 0, whole);
        Due.draw(x, 1, first);
        Due.draw(x, 2, second);
        Due.is(50, "GONE, once KIND " + kind, x.right(0), isRight ? 1 : 0);
    }

    /** "GONE: its two parts' GROUNDS are together its own, and share none." */
    private static void rightGone() {
        for (int kind = 0; kind <= 3; kind += 3) {
            gone(kind, true, rowsOf("##"), rowsOf("#"), " #");
            gone(kind, true, rowsOf("# #"), rowsOf("#"), "  #");
            gone(kind, true, rowsOf("##"), rowsOf("##"), "");
            gone(kind, true, rowsOf("##"), rowsOf(""), "##");
            gone(kind, false, rowsOf("##"), rowsOf("##"), "#");
            gone(kind, false, rowsOf("##"), rowsOf("##"), "##");
            gone(kind, false, rowsOf("##"), rowsOf("#"), "");
            gone(kind, false, rowsOf("##"), rowsOf("#"), "#");
            gone(kind, false, rowsOf("##"), rowsOf("#"), " ##");
            gone(kind, false, rowsOf("##"), rowsOf(""), "");
            gone(kind, false, rowsOf(""), rowsOf(""), "");
            gone(kind, true, BOARD, rowsOf(ALL, ALL, ALL, ALL), "", "", "", "", ALL, ALL, ALL, ALL);
            gone(kind, false, BOARD, rowsOf(ALL, ALL, ALL, ALL), "", "", "", ALL, ALL, ALL, ALL, ALL);
        }
        DeedCourt x = new DeedCourt();
        x.field(3, 0);
        Due.draw(x, 0, "##");
        Due.is(50, "a BOX", x.right(0), 1);
        x.part(0, 5);
        Due.is(50, "GONE: its parts have none", x.right(0), 0);
        Due.is(50, "a part without one", x.right(1), 0);
        Due.draw(x, 1, "#", "#");
        Due.draw(x, 2, " #");
        Due.is(50, "a part is a BOX", x.right(1), 1);
        Due.is(50, "together more", x.right(0), 0);
        x.part(1, 5);
        Due.is(50, "the part is GONE, too", x.right(1), 0);
    }

    /** "BAD: an empty set, a FIELD that isn't." */
    private static void whole() {
        for (int fields = 1; fields <= 10; fields++) {
            DeedCourt x = Due.land(fields);
            int all = (1 << fields) - 1;
            Due.is(51, "an empty set", x.whole(0, 0), BAD);
            Due.is(51, "all, empty", x.whole(fields - 1, all), 1);
            Due.is(51, "the last alone", x.whole(0, 1 << fields - 1), 1);
            Due.is(51, "one behind the last", x.whole(0, 1 << fields), BAD);
            Due.is(51, "one behind the last, too", x.whole(0, all + 1 + 1), BAD);
            Due.is(51, "all bits", x.whole(0, -1), BAD);
            Due.is(51, "no FIELD", x.whole(fields, 1), BAD);
            Due.is(51, "no FIELD", x.whole(-1, 1), BAD);
            Due.draw(x, fields - 1, "#");
            Due.is(51, "the last has one cell, all together", x.whole(fields - 1, all), 1);
            Due.is(51, "the first one's own", x.whole(0, all), fields == 1 ? 1 : 0);
        }
        DeedCourt x = Due.land(4);
        Due.draw(x, 0, BOARD);
        Due.draw(x, 1, ALL, ALL, ALL, ALL, ALL, ALL, ALL, "#######");
        Due.draw(x, 2, "", "", "", "", "", "", "", "       #");
        Due.is(51, "the whole board", x.whole(0, 6), 1);
        Due.is(51, "with an empty one", x.whole(0, 14), 1);
        Due.is(51, "all but the last cell", x.whole(0, 2), 0);
        Due.is(51, "no two share a cell: itself and a part", x.whole(0, 5), 0);
        Due.is(51, "itself", x.whole(0, 1), 1);
        Due.is(51, "more than its own", x.whole(1, 6), 0);
        Due.draw(x, 3, "", "", "", "", "", "", "", "      ##");
        Due.is(51, "two share one cell", x.whole(0, 10), 0);
        Due.is(51, "an empty set", x.whole(0, 0), BAD);
    }

    /** "and no two share a cell": whichever two of them, though they are together that of the FIELD. */
    private static void wholeOfEachTwo() {
        DeedCourt x = Due.land(6);
        Due.draw(x, 0, "#####");
        String[] own = {"", "#", " #", "  #", "   #", "    #"};
        for (int f = 1; f < 6; f++) {
            Due.draw(x, f, own[f]);
        }
        Due.is(51, "each has its own", x.whole(0, 62), 1);
        for (int a = 1; a < 6; a++) {
            for (int b = 1; b < 6; b++) {
                if (a != b) {
                    StringBuilder both = new StringBuilder("     ");
                    both.setCharAt(a - 1, '#');
                    both.setCharAt(b - 1, '#');
                    Due.draw(x, a, both.toString());
                    Due.is(51, a + " has a cell of " + b, x.whole(0, 62), 0);
                    Due.is(51, "without " + b + " no two share one", x.whole(0, 62 - (1 << b)), 1);
                    Due.draw(x, a, own[a]);
                }
            }
        }
    }
}
