import java.util.ArrayList;
import java.util.List;

/**
 * "REFUSALS (the call answers the number; nothing changes but how many there were; the first that fits as each line has
 * them)": each call that is refused, with its number, on an object in which something stands everywhere.
 */
public final class RefusedTest {
    private static final int NONE = Due.NONE;
    private static final int BAD = Due.BAD;
    private static final int OTHER = Due.OTHER;
    private static final int NOTHING = Due.NOTHING;
    private static final int STATE = Due.STATE;
    private static final int FULL = Due.FULL;
    private static final int LEAST = Integer.MIN_VALUE;
    private static final int MOST = Integer.MAX_VALUE;
    /** Numbers that are no YEAR, and such that are neither a FIELD nor a DEED of these lands. */
    private static final int[] NO_YEARS = {LEAST, -1, 1000, MOST};
    private static final int[] NO_FIELDS = {LEAST, -1, Standing.FIELDS, MOST};
    private static final int[] NO_DEEDS = {LEAST, -1, Standing.DEEDS, MOST};
    private static final int[] NO_SHELVES = {LEAST, -1, 8, MOST};

    private interface Call {
        long on(DeedCourt x);
    }

    private interface ByTwo {
        long on(DeedCourt x, int a, int b, int year);
    }

    private interface ByYear {
        long on(DeedCourt x, int year);
    }

    private RefusedTest() {
    }

    public static void main(String[] args) {
        shelves();
        copies();
        shown();
        fields();
        tape();
        deedsFull();
        deeds();
        ways();
        twoFields();
        years();
        numbers();
        orders();
        cells();
        grounds();
        searches();
        spent();
        tooMany();
        keep();
        asked();
        Due.end("RefusedTest");
    }

    private static final Call NOTHING_AHEAD = x -> 0;

    /** A call that answers a number of a refusal, and changes nothing but how many of these there were. */
    private static void refused(int promise, String call, long answer, Call ahead, Call refused) {
        int number = answer <= -20 ? BAD : (int) answer;
        DeedCourt x = Standing.make();
        ahead.on(x);
        List<Integer> due = Standing.refusals(x);
        Due.is(promise, call, refused.on(x), answer);
        due.set(BAD - number, due.get(BAD - number) + 1);
        Due.is(60, call + ": the REFUSALS are counted", Standing.refusals(x).equals(due) ? 1 : 0, 1);
        nothingChanged(promise, call, ahead, x);
    }

    private static void refused(int promise, String call, int number, Call refused) {
        refused(promise, call, number, NOTHING_AHEAD, refused);
    }

    /** A call that isn't refused, and changes nothing either. */
    private static void asked(int promise, String call, long answer, Call ahead, Call asked) {
        DeedCourt x = Standing.make();
        ahead.on(x);
        List<Integer> due = Standing.refusals(x);
        Due.is(promise, call, asked.on(x), answer);
        Due.is(60, call + ": nothing is refused", Standing.refusals(x).equals(due) ? 1 : 0, 1);
        nothingChanged(promise, call, ahead, x);
    }

    private static void nothingChanged(int promise, String call, Call ahead, DeedCourt x) {
        DeedCourt pristine = Standing.make();
        ahead.on(pristine);
        List<Long> due = Standing.tell(pristine);
        List<Long> got = Standing.tell(x);
        Due.is(promise, call + ": how much is told", got.size(), due.size());
        for (int i = 0; i < Math.min(due.size(), got.size()); i++) {
            Due.is(promise, call + ": what is told there is as it was, " + i, got.get(i), due.get(i));
        }
    }

    private static void shelves() {
        for (int s : NO_SHELVES) {
            refused(2, "row of no SHELF", BAD, x -> x.row(s, 0, 1));
            refused(3, "set on no SHELF: BAD ahead of a BAD i", BAD, x -> x.set(s, -1, 1));
        }
        for (int sort : new int[] {LEAST, -1, 5, MOST}) {
            refused(2, "row of no SORT", BAD, x -> x.row(Standing.ROW_SHELF, sort, 1));
        }
        for (int n : new int[] {LEAST, -1, 65, MOST}) {
            refused(2, "row of so many elements", BAD, x -> x.row(Standing.ROW_SHELF, 0, n));
        }
        for (int i : new int[] {LEAST, -1, 3, MOST}) {
            refused(3, "set of no element", BAD, x -> x.set(Standing.LONG_SHELF, i, 1));
            refused(3, "set in a SHELF with a FIELD: OTHER ahead of BAD i", OTHER, x -> x.set(Standing.FIELD_SHELF, i, 1));
            refused(3, "set in a SHELF with NOTHING: ahead of BAD i", NOTHING, x -> x.set(Standing.NOTHING_SHELF, i, 1));
        }
        refused(3, "set of a FIELD", OTHER, x -> x.set(Standing.FIELD_SHELF, 0, 1));
        refused(3, "set of NOTHING", NOTHING, x -> x.set(Standing.NOTHING_SHELF, 0, 1));
        refused(3, "set in a ROW without elements", BAD, x -> x.set(Standing.EMPTY_ROW_SHELF, 0, 1));
    }

    private static void copies() {
        Call rows = x -> x.row(6, 0, 5) + x.set(6, 1, 9);
        for (int s : NO_SHELVES) {
            refused(4, "copy from no SHELF: ahead of OTHER", BAD, x -> x.copy(s, Standing.FIELD_SHELF, 0, 0, 1));
            refused(4, "copy to no SHELF: ahead of OTHER", BAD, x -> x.copy(Standing.FIELD_SHELF, s, 0, 0, 1));
            refused(4, "copy from no SHELF: ahead of NOTHING", BAD, x -> x.copy(s, Standing.NOTHING_SHELF, 0, 0, 1));
        }
        int field = Standing.FIELD_SHELF;
        int nothing = Standing.NOTHING_SHELF;
        refused(4, "copy from a FIELD: ahead of NOTHING, and of BAD", OTHER, x -> x.copy(field, nothing, -1, 0, 1));
        refused(4, "copy to a FIELD: ahead of NOTHING, and of BAD", OTHER, x -> x.copy(nothing, field, -1, 0, 1));
        refused(4, "copy from a FIELD", OTHER, x -> x.copy(field, Standing.ROW_SHELF, 0, 0, 1));
        refused(4, "copy to a FIELD", OTHER, x -> x.copy(Standing.ROW_SHELF, field, 0, 0, 1));
        refused(4, "ROWS of two SORTS: ahead of BAD", OTHER, x -> x.copy(Standing.ROW_SHELF, Standing.LONG_SHELF, 0, 0, 65));
        refused(4, "ROWS of two SORTS, one of no elements", OTHER,
            x -> x.copy(Standing.ROW_SHELF, Standing.EMPTY_ROW_SHELF, 0, 0, 0));
        refused(4, "copy from NOTHING: ahead of BAD", NOTHING, x -> x.copy(nothing, Standing.ROW_SHELF, 0, 0, 65));
        refused(4, "copy to NOTHING: ahead of BAD", NOTHING, x -> x.copy(Standing.ROW_SHELF, nothing, 0, 0, -1));
        refused(4, "copy of NOTHING to itself", NOTHING, x -> x.copy(nothing, nothing, 0, 0, 0));
        int[][] bad = {{-1, 0, 1}, {LEAST, 0, 1}, {64, 0, 1}, {65, 0, 0}, {MOST, 0, 1}, {63, 0, 2}, {60, 0, 5},
            {0, -1, 1}, {0, LEAST, 1}, {0, 5, 1}, {0, 6, 0}, {0, MOST, 1}, {0, 4, 2}, {0, 0, -1}, {0, 0, LEAST}, {0, 0, 6},
            {0, 0, MOST}, {1, 0, MOST}, {0, 1, MOST}, {MOST, 0, MOST}, {MOST, MOST, 2}};
        for (int[] b : bad) {
            refused(4, "copy from " + b[0] + " on to " + b[1] + " on, " + b[2], BAD, rows,
                x -> x.copy(Standing.ROW_SHELF, 6, b[0], b[1], b[2]));
        }
    }

    private static void shown() {
        for (int s : NO_SHELVES) {
            refused(7, "show in no SHELF", BAD, x -> x.show(s, 0));
            refused(7, "show NONE in no SHELF", BAD, x -> x.show(s, NONE));
            refused(8, "says of no SHELF", BAD, x -> x.says(s, 0));
        }
        for (int field : new int[] {LEAST, -2, Standing.FIELDS, 10, MOST}) {
            refused(7, "show no FIELD", BAD, x -> x.show(Standing.ROW_SHELF, field));
        }
        for (int kind : new int[] {LEAST, -1, 5, MOST}) {
            refused(8, "says of no KIND", BAD, x -> x.says(Standing.FIELD_SHELF, kind));
            refused(8, "says of no KIND: ahead of OTHER", BAD, x -> x.says(Standing.ROW_SHELF, kind));
            refused(8, "says of no KIND: ahead of NOTHING", BAD, x -> x.says(Standing.NOTHING_SHELF, kind));
        }
        for (int kind = 0; kind <= 4; kind++) {
            int taken = kind;
            refused(8, "says of a ROW", OTHER, x -> x.says(Standing.ROW_SHELF, taken));
            refused(8, "says of a ROW without elements", OTHER, x -> x.says(Standing.EMPTY_ROW_SHELF, taken));
            refused(8, "says of NOTHING", NOTHING, x -> x.says(Standing.NOTHING_SHELF, taken));
        }
        refused(8, "a PIECE taken for a DISC", OTHER, x -> x.says(Standing.FIELD_SHELF, 2));
        refused(8, "a PIECE taken for a BOX", OTHER, x -> x.says(Standing.FIELD_SHELF, 3));
        refused(8, "a PIECE taken for GONE", OTHER, x -> x.says(Standing.FIELD_SHELF, 4));
        for (int kind = 1; kind <= 3; kind++) {
            int taken = kind;
            refused(8, "GONE taken for what it was", OTHER, x -> x.says(Standing.GONE_SHELF, taken));
        }
    }

    private static void fields() {
        Call nine = x -> x.field(0, 0) + x.field(0, 0) + x.field(0, 0) + x.field(0, 0);
        Call ten = x -> nine.on(x) + x.field(0, 0);
        for (int kind : new int[] {LEAST, -1, 4, 5, MOST}) {
            refused(9, "field of no such KIND", BAD, x -> x.field(kind, 0));
            refused(9, "field of no such KIND: ahead of FULL", BAD, ten, x -> x.field(kind, 0));
        }
        for (int year : NO_YEARS) {
            refused(9, "field of no YEAR", BAD, x -> x.field(0, year));
            refused(9, "field of no YEAR: ahead of FULL", BAD, ten, x -> x.field(0, year));
            refused(11, "part in no YEAR", BAD, x -> x.part(0, year));
            refused(11, "part in no YEAR: ahead of STATE", BAD, x -> x.part(1, year));
            refused(11, "part in no YEAR: ahead of FULL", BAD, ten, x -> x.part(0, year));
        }
        refused(9, "field: ten are there", FULL, ten, x -> x.field(3, 999));
        for (int f : NO_FIELDS) {
            refused(10, "fieldOf no FIELD", BAD, x -> x.fieldOf(f, 0));
            refused(11, "part of no FIELD", BAD, x -> x.part(f, 5));
        }
        for (int what : new int[] {LEAST, -1, 4, MOST}) {
            refused(10, "fieldOf: nothing of that number", BAD, x -> x.fieldOf(0, what));
        }
        refused(11, "part ahead of the YEAR from which on it is", BAD, x -> x.part(0, 2));
        refused(11, "part ahead of the YEAR from which on it is: ahead of FULL", BAD, ten, x -> x.part(0, 2));
        refused(11, "part of what is GONE", STATE, x -> x.part(1, 5));
        refused(11, "part of what is GONE, later", STATE, x -> x.part(1, 999));
        refused(11, "part of what is GONE: ahead of FULL", STATE, ten, x -> x.part(1, 5));
        refused(11, "part: one is free", FULL, nine, x -> x.part(0, 3));
        refused(11, "part: none is free", FULL, ten, x -> x.part(0, 3));
    }

    private static void tape() {
        for (int n : new int[] {LEAST, -1, 0, 5, MOST}) {
            refused(12, "feed " + n, BAD, x -> x.feed('a', n));
            refused(12, "feed " + n + ": ahead of FULL", BAD, x -> fillTape(x, 80), x -> x.feed('a', n));
        }
        for (int n = 1; n <= 4; n++) {
            int bytes = n;
            refused(12, "feed " + n + ": one too many", FULL, x -> fillTape(x, 81 - bytes), x -> x.feed('a', bytes));
            refused(12, "feed " + n + ": THE TAPE is full", FULL, x -> fillTape(x, 80), x -> x.feed('a', bytes));
        }
        // A fault is refused, too, and THE TAPE is empty then: as by wipe().
        DeedCourt x = Standing.make();
        x.feed('?', 1);
        Due.is(14, "a fault behind a DEED", x.deed(), -36);
        Due.is(60, "it is BAD", x.status(12), 1);
        DeedCourt y = Standing.make();
        y.wipe();
        Due.is(14, "nothing changed but THE TAPE", Standing.tell(x).equals(Standing.tell(y)) ? 1 : 0, 1);
    }

    private static long fillTape(DeedCourt x, int size) {
        int left = size - x.status(2);
        while (left > 0) {
            int n = Math.min(4, left);
            x.feed(0x20202020, n);
            left -= n;
        }
        return left;
    }

    private static long sayDeeds(DeedCourt x, int count) {
        x.wipe();
        while (x.status(1) < count) {
            Due.feed(x, "0apart2");
            x.deed();
        }
        return x.status(1);
    }

    private static void deedsFull() {
        refused(14, "the 25th DEED", FULL, x -> sayDeeds(x, 24) + x.feed('0', 1), x -> x.deed());
        refused(14, "the 25th DEED: ahead of the FAULT", FULL, x -> sayDeeds(x, 24) + x.feed('?', 1), x -> x.deed());
        refused(14, "the 25th DEED: THE TAPE is empty", FULL, x -> sayDeeds(x, 24), x -> x.deed());
        refused(14, "the 25th DEED: THE TAPE is full", FULL, x -> sayDeeds(x, 24) + fillTape(x, 80), x -> x.deed());
    }

    private static void deeds() {
        for (int d : NO_DEEDS) {
            refused(15, "deedOf no DEED", BAD, x -> x.deedOf(d, 0));
            refused(16, "drop no DEED", BAD, x -> x.drop(d, true));
            refused(16, "take no DEED again", BAD, x -> x.drop(d, false));
            refused(17, "weigh no DEED", BAD, x -> x.weigh(d, 1));
        }
        for (int what : new int[] {LEAST, -1, 7, MOST}) {
            refused(15, "deedOf: nothing of that number", BAD, x -> x.deedOf(0, what));
        }
        for (int v : new int[] {LEAST, -1, 0, 100, MOST}) {
            refused(17, "weigh " + v, BAD, x -> x.weigh(0, v));
        }
        for (int word : new int[] {LEAST, -1, 4, MOST}) {
            refused(18, "no OLD WORD", BAD, x -> x.mean(word, 1));
            refused(18, "no OLD WORD, NONE", BAD, x -> x.mean(word, NONE));
        }
        for (int way : new int[] {LEAST, -2, 8, MOST}) {
            refused(18, "mean no WAY", BAD, x -> x.mean(0, way));
        }
    }

    private static void ways() {
        for (int set : new int[] {LEAST, -1, 0, 256, MOST}) {
            refused(19, "turned(" + set + ")", BAD, x -> x.turned(set));
            refused(21, "follow(" + set + ", 1)", BAD, x -> x.follow(set, 1));
            refused(21, "follow(1, " + set + ")", BAD, x -> x.follow(1, set));
        }
        for (int way : new int[] {LEAST, -1, 8, MOST}) {
            refused(20, "three(" + way + ", 0)", BAD, x -> x.three(way, 0));
            refused(20, "three(0, " + way + ")", BAD, x -> x.three(0, way));
            refused(53, "found(" + way + ", 0)", BAD, x -> x.found(way, 0));
            refused(53, "found(0, " + way + ")", BAD, x -> x.found(0, way));
        }
    }

    /** Calls of two FIELDS, "BAD: a and itself, too". */
    private static void twoFields() {
        ByTwo[] calls = {(x, a, b, y) -> x.ways(a, b, y), (x, a, b, y) -> x.known(a, b, y), (x, a, b, y) -> x.told(a, b, y),
            (x, a, b, y) -> x.may(a, b, y), (x, a, b, y) -> x.must(a, b, y), (x, a, b, y) -> x.laid(a, b),
            (x, a, b, y) -> x.lies(a, b)};
        int[] promises = {22, 24, 28, 30, 31, 45, 48};
        for (int i = 0; i < calls.length; i++) {
            ByTwo call = calls[i];
            int promise = promises[i];
            for (int f : NO_FIELDS) {
                refused(promise, "of no FIELD", BAD, x -> call.on(x, f, 0, 0));
                refused(promise, "to no FIELD", BAD, x -> call.on(x, 0, f, 0));
                refused(promise, "of no FIELD to itself", BAD, x -> call.on(x, f, f, 0));
            }
            refused(promise, "of the first FIELD to itself", BAD, x -> call.on(x, 0, 0, 0));
            refused(promise, "of the last FIELD to itself", BAD, x -> call.on(x, 4, 4, 0));
            for (int year : promise < 45 ? NO_YEARS : new int[0]) {
                refused(promise, "AS OF no YEAR", BAD, x -> call.on(x, 0, 1, year));
                refused(promise, "AS OF no YEAR, of a FIELD to itself", BAD, x -> call.on(x, 0, 0, year));
            }
        }
    }

    private static final List<Integer> BY_YEAR_PROMISES = new ArrayList<>();
    private static final List<ByYear> BY_YEAR = new ArrayList<>();

    private static void byYear(int promise, ByYear call) {
        BY_YEAR_PROMISES.add(promise);
        BY_YEAR.add(call);
    }

    static {
        byYear(23, (x, y) -> x.shrink(y));
        byYear(25, (x, y) -> x.can(y));
        byYear(26, (x, y) -> x.choose(y));
        byYear(27, (x, y) -> x.blind(y));
        byYear(29, (x, y) -> x.many(y, 1));
        byYear(32, (x, y) -> x.quarrel(y));
        byYear(33, (x, y) -> x.small(y));
        byYear(34, (x, y) -> x.doubt(y));
        byYear(35, (x, y) -> x.drops(y));
        byYear(36, (x, y) -> x.rival(y));
        byYear(37, (x, y) -> x.word(0, y));
        byYear(38, (x, y) -> x.settle(y));
        byYear(39, (x, y) -> x.left(y));
        byYear(40, (x, y) -> x.ring(0, y));
        byYear(41, (x, y) -> x.rank(0, 0, y));
        byYear(42, (x, y) -> x.lay(y));
        byYear(49, (x, y) -> x.judge(y));
        byYear(55, (x, y) -> x.begin(y));
    }

    private static void years() {
        for (int i = 0; i < BY_YEAR.size(); i++) {
            ByYear call = BY_YEAR.get(i);
            for (int year : NO_YEARS) {
                refused(BY_YEAR_PROMISES.get(i), "AS OF " + year, BAD, x -> call.on(x, year));
            }
        }
    }

    private static void numbers() {
        for (int most : new int[] {LEAST, -1, 0, 501, MOST}) {
            refused(29, "many, at most " + most, BAD, x -> x.many(0, most));
        }
        for (int word : new int[] {LEAST, -1, 4, MOST}) {
            refused(37, "no OLD WORD", BAD, x -> x.word(word, 0));
            refused(37, "no OLD WORD: ahead of STATE", BAD, x -> sayDeeds(x, 12), x -> x.word(word, 0));
        }
        for (int n : new int[] {LEAST, -1, 0, 101, MOST}) {
            refused(52, "draw(" + n + ")", BAD, x -> x.draw(n));
        }
    }

    private static void orders() {
        Call ring = x -> x.wipe() + Due.deed(x, "0 north 2") + Due.deed(x, "2 north 0 year 6");
        for (int order : new int[] {LEAST, -1, 3, MOST}) {
            refused(40, "ring of no ORDER", BAD, x -> x.ring(order, 0));
            refused(41, "rank by no ORDER", BAD, x -> x.rank(order, 0, 0));
        }
        for (int f : NO_FIELDS) {
            refused(41, "rank of no FIELD", BAD, x -> x.rank(0, f, 0));
            refused(41, "rank of no FIELD: ahead of STATE", BAD, ring, x -> x.rank(0, f, 6));
        }
        refused(41, "rank of one in a RING", STATE, ring, x -> x.rank(0, 0, 6));
        refused(41, "rank of one that is in no RING", STATE, ring, x -> x.rank(0, 4, 999));
        asked(41, "rank by another ORDER than the RING's", 0, ring, x -> x.rank(1, 0, 999));
        asked(41, "rank ahead of the YEAR of the RING", 1, ring, x -> x.rank(0, 0, 5));
    }

    private static void cells() {
        for (int f : NO_FIELDS) {
            refused(43, "cell of no FIELD", BAD, x -> x.cell(0, f));
            refused(46, "ground of no FIELD", BAD, x -> x.ground(f, Standing.ROW_SHELF));
            refused(46, "ground of no FIELD: ahead of OTHER", BAD, x -> x.ground(f, Standing.FIELD_SHELF));
            refused(46, "ground of no FIELD: ahead of NOTHING", BAD, x -> x.ground(f, Standing.NOTHING_SHELF));
            refused(50, "right: no FIELD", BAD, x -> x.right(f));
            refused(51, "whole: no FIELD", BAD, x -> x.whole(f, 1));
        }
        int laid = Standing.make().lay(0);
        for (int cell : new int[] {LEAST, -1, laid, 100, MOST}) {
            refused(43, "no CELL", BAD, x -> x.cell(cell, 0));
            refused(44, "no CELL", BAD, x -> x.mate(cell));
        }
        Call apart = x -> x.wipe() + Due.deed(x, "0 apart 2");
        Due.is(44, "the last CELL is one", Standing.make().mate(laid - 1) >= NONE ? 1 : 0, 1);
        asked(42, "lay: there is no TELLING, what was laid stays", NONE, apart, x -> x.lay(0));
    }

    private static void grounds() {
        for (int s : NO_SHELVES) {
            refused(46, "ground by no SHELF", BAD, x -> x.ground(0, s));
        }
        refused(46, "ground by a FIELD", OTHER, x -> x.ground(0, Standing.FIELD_SHELF));
        refused(46, "ground by NOTHING", NOTHING, x -> x.ground(0, Standing.NOTHING_SHELF));
        for (int set : new int[] {0, 1 << Standing.FIELDS, 1 << 30, LEAST, -1, MOST, 1 | 1 << Standing.FIELDS, 1 | LEAST}) {
            refused(51, "whole by the set " + set, BAD, x -> x.whole(0, set));
        }
    }

    private static void searches() {
        for (int n : new int[] {LEAST, -1, 0, 1000, MOST}) {
            refused(56, "step(" + n + ")", BAD, x -> x.step(n));
            refused(56, "step(" + n + "): ahead of STATE", BAD, x -> x.step(999), x -> x.step(n));
        }
        refused(56, "step: it is FOUND", STATE, x -> x.step(999), x -> x.step(1));
        for (int what : new int[] {LEAST, -1, 5, MOST}) {
            refused(57, "search(" + what + ")", BAD, x -> x.search(what));
        }
        Call ended = x -> x.wipe() + Due.deed(x, "0 apart 2") + x.begin(0);
        refused(56, "step: it has ended", STATE, ended, x -> x.step(1));
        // What is kept has no SEARCH under way.
        Call none = x -> x.back();
        refused(56, "step: none is under way", STATE, none, x -> x.step(1));
        refused(56, "step(0): ahead of STATE", BAD, none, x -> x.step(0));
        for (int what = 0; what <= 4; what++) {
            int told = what;
            refused(57, "search(" + what + "): none is under way", STATE, none, x -> x.search(told));
        }
        refused(57, "search(5): ahead of STATE", BAD, none, x -> x.search(5));
    }

    /** SPENT: two FIELDS without DEEDS ahead of four that can't be, which a SEARCH sees late. */
    private static void spent() {
        Call hard = x -> x.wipe() + x.drop(0, true) + x.drop(2, true) + x.drop(3, true) + moreFields(x)
            + Due.deed(x, "6 touch or edge or round 7") + Due.deed(x, "6 apart or inside or holds 8")
            + Due.deed(x, "7 edge or round or same 8") + Due.deed(x, "6 edge or round or same 9")
            + Due.deed(x, "7 inside or holds 9") + Due.deed(x, "8 touch or edge or round 9");
        refused(25, "can", STATE, hard, x -> x.can(0));
        refused(26, "choose", STATE, hard, x -> x.choose(0));
        refused(27, "blind", STATE, hard, x -> x.blind(0));
        refused(28, "told", STATE, hard, x -> x.told(0, 1, 0));
        refused(28, "told of a FIELD to itself: BAD ahead of STATE", BAD, hard, x -> x.told(1, 1, 0));
        refused(29, "many", STATE, hard, x -> x.many(0, 1));
        refused(29, "many, at most 501: BAD ahead of STATE", BAD, hard, x -> x.many(0, 501));
        refused(30, "may", STATE, hard, x -> x.may(0, 1, 0));
        refused(30, "may of no FIELD: BAD ahead of STATE", BAD, hard, x -> x.may(0, 10, 0));
        refused(31, "must", STATE, hard, x -> x.must(0, 1, 0));
        refused(31, "must of no FIELD: BAD ahead of STATE", BAD, hard, x -> x.must(-1, 0, 0));
        refused(32, "quarrel", STATE, hard, x -> x.quarrel(0));
        refused(33, "small", STATE, hard, x -> x.small(0));
        refused(34, "doubt", STATE, hard, x -> x.doubt(0));
        refused(35, "drops", STATE, hard, x -> x.drops(0));
        refused(36, "rival", STATE, hard, x -> x.rival(0));
        refused(37, "word: it means again what it meant", STATE, hard, x -> x.word(0, 0));
        refused(42, "lay: what was laid stays", STATE, hard, x -> x.lay(0));
    }

    private static long moreFields(DeedCourt x) {
        long sum = 0;
        while (x.status(0) < 10) {
            sum += x.field(0, 0);
        }
        return sum;
    }

    /** More than 8 DEEDS; FIELDS that are fewer than 2, or more than 4. */
    private static void tooMany() {
        Call nine = x -> sayDeeds(x, 10);
        refused(32, "quarrel of nine", STATE, nine, x -> x.quarrel(0));
        refused(33, "small of nine", STATE, nine, x -> x.small(0));
        refused(34, "doubt of nine", STATE, nine, x -> x.doubt(0));
        refused(35, "drops of nine", STATE, nine, x -> x.drops(0));
        refused(36, "rival of nine", STATE, nine, x -> x.rival(0));
        refused(37, "word of nine", STATE, nine, x -> x.word(0, 0));
        for (int year : NO_YEARS) {
            refused(32, "quarrel of nine: BAD ahead of STATE", BAD, nine, x -> x.quarrel(year));
            refused(33, "small of nine: BAD ahead of STATE", BAD, nine, x -> x.small(year));
            refused(34, "doubt of nine: BAD ahead of STATE", BAD, nine, x -> x.doubt(year));
            refused(35, "drops of nine: BAD ahead of STATE", BAD, nine, x -> x.drops(year));
            refused(36, "rival of nine: BAD ahead of STATE", BAD, nine, x -> x.rival(year));
            refused(37, "word of nine: BAD ahead of STATE", BAD, nine, x -> x.word(0, year));
            refused(38, "settle of five FIELDS: BAD ahead of STATE", BAD, x -> x.settle(year));
            refused(39, "left of five FIELDS: BAD ahead of STATE", BAD, x -> x.left(year));
        }
        refused(38, "settle of five FIELDS", STATE, x -> x.settle(0));
        refused(39, "left of five FIELDS", STATE, x -> x.left(0));
    }

    private static void keep() {
        DeedCourt x = Due.land(2, "0 edge 1");
        x.show(3, 1);
        Due.is(59, "nothing was kept", x.back(), STATE);
        Due.is(59, "FIELDS stay", x.status(0), 2);
        Due.is(59, "DEEDS stay", x.status(1), 1);
        Due.is(59, "SHELVES stay", x.holds(3), 11);
        Due.is(60, "STATE", x.status(15), 1);
    }

    /** Calls that tell what isn't there without a refusal, and such as only ask. */
    private static void asked() {
        for (int s : NO_SHELVES) {
            asked(5, "element of no SHELF", 0, NOTHING_AHEAD, x -> x.element(s, 0));
            asked(6, "holds of no SHELF", NONE, NOTHING_AHEAD, x -> x.holds(s));
        }
        for (int i : new int[] {LEAST, -1, 3, MOST}) {
            asked(5, "no element", 0, NOTHING_AHEAD, x -> x.element(Standing.LONG_SHELF, i));
        }
        asked(5, "no ROW", 0, NOTHING_AHEAD, x -> x.element(Standing.FIELD_SHELF, 0));
        asked(5, "no ROW", 0, NOTHING_AHEAD, x -> x.element(Standing.NOTHING_SHELF, 0));
        for (int f : NO_FIELDS) {
            asked(47, "no such one", 0, NOTHING_AHEAD, x -> x.groundOf(f));
        }
        for (int what : new int[] {LEAST, -1, 5, 11, 17, MOST}) {
            asked(60, "another what", NONE, NOTHING_AHEAD, x -> x.status(what));
        }
        for (int i = 0; i < BY_YEAR.size(); i++) {
            ByYear call = BY_YEAR.get(i);
            int promise = BY_YEAR_PROMISES.get(i);
            boolean isRefused = promise == 38 || promise == 39;
            boolean changes = promise == 42 || promise == 55;
            for (int year = 0; year <= 999 && !isRefused && !changes; year += 999) {
                int y = year;
                asked(promise, "AS OF " + y + ", which is a YEAR", call.on(Standing.make(), y), NOTHING_AHEAD, x -> call.on(x, y));
            }
        }
        asked(37, "word: it means again what it meant", 0, NOTHING_AHEAD, x -> x.word(1, 0));
        asked(30, "may", Standing.make().may(0, 2, 0), NOTHING_AHEAD, x -> x.may(0, 2, 0));
        asked(31, "must", 1, NOTHING_AHEAD, x -> x.must(2, 0, 0));
        asked(45, "laid", 1, NOTHING_AHEAD, x -> x.laid(0, 2));
    }
}
