import java.util.ArrayList;
import java.util.List;
import java.util.Random;

/**
 * "AS OF a YEAR y: DEEDS that aren't DROPPED, of y or ahead of it", "of a FIELD parted in y or ahead of it": each call
 * that is told a YEAR answers as of a land of the YEAR 0 alone, of which all that comes behind that YEAR is left out.
 */
public final class YearsTest {
    private static final int[] YEARS = {0, 1, 4, 5, 6, 998, 999};
    private static final int LAST = 999;
    private static final int LANDS = 250;

    private final int seed;
    private int fields;
    private int deeds;
    private boolean[] isGone;
    private int[] from;

    private YearsTest(int seed) {
        this.seed = seed;
    }

    public static void main(String[] args) {
        for (int seed = 0; seed < LANDS; seed++) {
            for (int year : YEARS) {
                new YearsTest(seed).compare(year);
            }
        }
        alone();
        Due.end("YearsTest");
    }

    private void compare(int year) {
        List<String> names = new ArrayList<>();
        List<Long> got = ask(make(LAST, false), year, names);
        List<Long> due = ask(make(year, true), 0, new ArrayList<>());
        for (int i = 0; i < due.size(); i++) {
            int promise = Integer.parseInt(names.get(i).split(" ")[0]);
            Due.is(promise, "land " + seed + ", YEAR " + year + ": " + names.get(i), got.get(i), due.get(i));
        }
    }

    /** The land of a seed, in which nothing comes behind a YEAR; all of it in its own YEAR, or in the YEAR 0. */
    private DeedCourt make(int last, boolean isAtOnce) {
        Random random = new Random(seed);
        DeedCourt x = new DeedCourt();
        isGone = new boolean[10];
        from = new int[10];
        fields = 1 + random.nextInt(3);
        for (int f = 0; f < fields; f++) {
            x.field(0, 0);
        }
        int parts = random.nextInt(3);
        for (int i = 0; i < parts && fields <= 3; i++) {
            part(x, random.nextInt(fields), YEARS[random.nextInt(YEARS.length)], last, isAtOnce);
        }
        int said = fields < 2 ? 0 : random.nextInt(7);
        deeds = 0;
        for (int d = 0; d < said; d++) {
            say(x, random, last, isAtOnce);
        }
        for (int f = 0; f < fields; f++) {
            Due.draw(x, f, random.nextInt(3) == 0 ? "##" : "", random.nextInt(3) == 0 ? " ##" : "###");
        }
        return x;
    }

    /** Parts a FIELD, if that can be; behind the last YEAR there are two more FIELDS, but nothing is said of them. */
    private void part(DeedCourt x, int field, int year, int last, boolean isAtOnce) {
        if (isGone[field] || year < from[field]) {
            return;
        }
        if (year <= last) {
            Due.is(11, "part", x.part(field, isAtOnce ? 0 : year), fields);
        } else {
            x.field(0, 0);
            x.field(0, 0);
        }
        isGone[field] = true;
        from[fields] = year;
        from[fields + 1] = year;
        fields += 2;
    }

    private void say(DeedCourt x, Random random, int last, boolean isAtOnce) {
        int a = random.nextInt(fields);
        int b = (a + 1 + random.nextInt(fields - 1)) % fields;
        String[] orders = {"north", "east", "larger"};
        String ways = Due.WAYS[random.nextInt(8)] + " or " + Due.WAYS[random.nextInt(8)] + " or old 1";
        String says = random.nextInt(4) == 0 ? orders[random.nextInt(3)] : random.nextInt(3) == 0 ? "not " + ways : ways;
        int year = YEARS[random.nextInt(YEARS.length)];
        int weight = 1 + random.nextInt(3);
        x.mean(1, 2);
        String years = " year " + (isAtOnce ? 0 : year);
        Due.is(14, "deed()", Due.deed(x, a + says + " " + b + years + "weight" + weight), deeds);
        if (year > last) {
            x.drop(deeds, true);
        }
        deeds++;
    }

    private List<Long> ask(DeedCourt x, int year, List<String> names) {
        List<Long> all = new ArrayList<>();
        add(all, names, "23 shrink", x.shrink(year));
        add(all, names, "25 can", x.can(year));
        add(all, names, "26 choose", x.choose(year));
        add(all, names, "27 blind", x.blind(year));
        add(all, names, "29 many", x.many(year, 60));
        add(all, names, "32 quarrel", x.quarrel(year));
        add(all, names, "33 small", x.small(year));
        add(all, names, "34 doubt", x.doubt(year));
        add(all, names, "35 drops", x.drops(year));
        add(all, names, "36 rival", x.rival(year));
        add(all, names, "37 word", x.word(1, year));
        if (fields < 4) {
            add(all, names, "38 settle", x.settle(year));
            add(all, names, "39 left", x.left(year));
        }
        add(all, names, "49 judge", x.judge(year));
        add(all, names, "55 begin", x.begin(year));
        add(all, names, "56 step of 2", x.step(2));
        add(all, names, "56 step", x.step(999));
        for (int what = 1; what < 5; what++) {
            add(all, names, "57 search " + what, x.search(what));
        }
        askTwo(x, year, all, names);
        askOrders(x, year, all, names);
        int cells = x.lay(year);
        add(all, names, "42 lay", cells);
        for (int c = 0; c < Math.min(cells, 12); c++) {
            add(all, names, "44 mate " + c, x.mate(c));
        }
        return all;
    }

    private void askTwo(DeedCourt x, int year, List<Long> all, List<String> names) {
        for (int b = 1; b < fields; b++) {
            for (int a = 0; a < b; a++) {
                String two = " of " + a + " to " + b;
                add(all, names, "22 ways" + two, x.ways(a, b, year));
                add(all, names, "24 known" + two, x.known(a, b, year));
                add(all, names, "28 told" + two, x.told(a, b, year));
                add(all, names, "30 may" + two, x.may(a, b, year));
                add(all, names, "31 must" + two, x.must(b, a, year));
            }
        }
    }

    private void askOrders(DeedCourt x, int year, List<Long> all, List<String> names) {
        for (int order = 0; order < 3; order++) {
            add(all, names, "40 ring of " + order, x.ring(order, year));
            for (int f = 0; f < fields; f++) {
                add(all, names, "41 rank of " + f + " by " + order, x.rank(order, f, year));
            }
        }
    }

    private static void add(List<Long> all, List<String> names, String name, long answer) {
        names.add(name);
        all.add(answer);
    }

    /** Of DEEDS that are said in a YEAR, each call that goes blind or counts; of a FIELD that is parted, each that shrinks. */
    private static void alone() {
        DeedCourt x = new DeedCourt();
        for (int f = 0; f < 4; f++) {
            x.field(0, 0);
        }
        String[] hard = {"0 touch or edge or round 1", "0 apart or inside or holds 2", "1 edge or round or same 2",
            "0 edge or round or same 3", "1 inside or holds 3", "2 touch or edge or round 3"};
        for (int d = 0; d < hard.length; d++) {
            Due.is(14, "deed()", Due.deed(x, hard[d] + (d == 0 ? " year 7" : "")), d);
        }
        Due.is(27, "none is BLIND ahead of it", x.blind(6), 0);
        Due.is(27, "three are", x.blind(7), 3);
        Due.is(26, "three CHOICES", x.choose(7), 3);
        DeedCourt y = new DeedCourt();
        y.field(0, 0);
        y.part(0, 7);
        int[] known = {24, 24, 3};
        int[][] two = {{1, 0}, {2, 0}, {1, 2}};
        for (int i = 0; i < 3; i++) {
            Due.is(24, "ahead of it", y.known(two[i][0], two[i][1], 6), 255);
            Due.is(24, "in it", y.known(two[i][0], two[i][1], 7), known[i]);
        }
        Due.is(23, "ahead of it", y.shrink(6), 0);
        Due.is(55, "ahead of it", y.begin(6), 3);
        Due.is(56, "ahead of it", y.step(999), 3);
        Due.is(29, "ahead of it: by THREE", y.many(6, 500), Due.land(3).many(0, 500));
        Due.is(42, "ahead of it: all APART", y.lay(6), 3);
        Due.is(42, "in it: EDGE, EDGE, APART", y.lay(7), 7);
    }
}
