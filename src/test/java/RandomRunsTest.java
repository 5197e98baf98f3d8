import java.util.ArrayList;
import java.util.List;
import java.util.Random;

/**
 * Runs of drawn calls on a DeedCourt and on a PlainCourt: each answer must be the same. The draws are the same each time.
 * An argument tells how many runs; another one the seed of the first.
 */
public final class RandomRunsTest {
    private static final String[] SAYING =
        {"apart", "touch", "over", "edge", "inside", "round", "holds", "same", "within"};
    private static final String[] ORDER = {"north", "east", "larger"};
    private static final String[] ODD =
        {"or", "not", "old", "year", "weight", "1234", "0000", "100", "99", "0", "{", "`", "A", "/", ":", "aparts", "apar", "\t", "\u00e9"};

    /** Deeds among five or six fields of which a search must try some ways, mostly in vain: shrinking doesn't tell. */
    private static final String[] HARD = {
        "0 inside or holds or same 1,2 touch or holds or same 4,1 edge or holds or same 3,3 apart or holds or same 4,"
            + "1 over or inside or same 4,0 touch or edge or round 2,0 edge or inside or round 3,0 over or inside or same 4,"
            + "2 holds or same 3,1 touch or inside or holds 2",
        "0 apart or edge or round 1,1 apart or edge or round 3,2 inside or holds 3,0 touch or edge or round 2,"
            + "1 apart or holds or same 4,3 inside or round 4,0 edge or inside or holds 3,2 inside or round 4,"
            + "1 inside or round or holds 2,0 inside or holds 4",
        "3 apart or holds or same 4,0 touch or inside or round 3,3 edge or round 5,2 touch or inside or holds 4,"
            + "4 inside or round or same 5,1 apart or inside or holds 2,2 apart or holds or same 5,2 edge or inside or round 3,"
            + "1 apart or edge or round 5,1 apart or holds or same 3,1 inside or round or holds 4,0 apart or edge or holds 5",
        "0 inside or round or same 2,2 touch or holds or same 4,0 edge or round or same 3,1 apart or holds or same 2,"
            + "3 inside or holds 5,1 apart or inside or same 5,0 inside or round 4,0 apart or holds or same 5,"
            + "1 inside or round or same 4,3 edge or inside or round 4,0 inside or round 1,2 touch or inside or round 3"};

    /** An object is used for so many calls; one turn of a run makes fewer than a hundred. */
    private static final int MOST_CALLS = 512;

    private static int wrong = 0;

    private final DeedCourt x = new DeedCourt();
    private final PlainCourt y = new PlainCourt();
    private final Random random;
    private final int seed;
    private final int mostFields;
    private final int orderly;
    private final int years;
    private final List<String> calls = new ArrayList<>();
    private boolean failed = false;

    private RandomRunsTest(int seed) {
        this.seed = seed;
        random = new Random(seed);
        mostFields = new int[] {2, 3, 3, 4, 4, 5, 6, 10}[random.nextInt(8)];
        orderly = new int[] {1, 3, 8}[random.nextInt(3)];
        years = new int[] {1, 4, 1000}[random.nextInt(3)];
    }

    public static void main(String[] args) {
        int runs = args.length > 0 ? Integer.parseInt(args[0]) : 1500;
        int first = args.length > 1 ? Integer.parseInt(args[1]) : 0;
        for (int i = first; i < first + runs && wrong < 10; i++) {
            new RandomRunsTest(i).run();
        }
        System.out.println(runs + " random runs, " + wrong + " wrong");
        if (wrong != 0) {
            System.exit(1);
        }
    }

    private void run() {
        if (seed % 6 == 0) {
            sayHardDeeds();
        }
        int fields = random.nextInt(8) == 0 ? 0 : 1 + random.nextInt(mostFields);
        for (int i = 0; i < fields; i++) {
            make(9);
        }
        while (calls.size() < MOST_CALLS - 100 && !failed) {
            int what = random.nextInt(100);
            if (what < 14) {
                sayDeed();
            } else {
                make(what < 34 ? 55 + random.nextInt(6) : 2 + random.nextInt(59));
            }
        }
    }

    private void due(String call, long got, long want) {
        calls.add(call);
        if (got != want && !failed) {
            failed = true;
            wrong++;
            System.out.println("seed " + seed + ", call " + calls.size() + ": " + call + " answered " + got + ", due is " + want);
            for (String c : calls) {
                System.out.println("    " + c);
            }
        }
    }

    // numbers: mostly such as may be

    private int upTo(int least, int most) {
        if (random.nextInt(40) == 0) {
            int[] odd = {least - 1, most + 1, Integer.MIN_VALUE, Integer.MAX_VALUE, -1, -2, 0, most + 32, least - 1000};
            return odd[random.nextInt(odd.length)];
        }
        return least > most ? least : least + random.nextInt(most - least + 1);
    }

    private int year() {
        return upTo(0, years - 1);
    }

    private int aField() {
        return upTo(0, Math.max(0, y.status(0) - 1));
    }

    private int aDeed() {
        return upTo(0, Math.max(0, y.status(1) - 1));
    }

    private int aSet() {
        return upTo(1, 255);
    }

    private void feed(String text) {
        for (int i = 0; i < text.length() && !failed;) {
            int n = Math.min(text.length() - i, 1 + random.nextInt(4));
            int v = random.nextInt();
            for (int k = 0; k < n; k++) {
                v = v << 8 | text.charAt(i + k) & 255;
            }
            i += n;
            due("feed(" + v + ", " + n + ")", x.feed(v, n), y.feed(v, n));
        }
    }

    private String pick(String[] words) {
        return words[random.nextInt(words.length)];
    }

    private String deedText() {
        StringBuilder text = new StringBuilder();
        int most = Math.max(1, y.status(0));
        int first = random.nextInt(most);
        text.append(first).append(' ');
        if (random.nextInt(orderly) == 0) {
            text.append(pick(ORDER));
        } else {
            text.append(random.nextInt(4) == 0 ? "not " : "");
            int ones = 1 + random.nextInt(random.nextInt(3) + 1);
            for (int i = 0; i < ones; i++) {
                text.append(i > 0 ? " or " : "");
                text.append(random.nextInt(6) == 0 ? "old " + random.nextInt(4) : pick(SAYING));
            }
        }
        int second = (first + 1 + random.nextInt(Math.max(1, most - 1))) % most;
        text.append(' ').append(second);
        if (random.nextInt(3) == 0) {
            text.append(" year ").append(random.nextInt(years));
        }
        if (random.nextInt(3) == 0) {
            text.append(" weight ").append(1 + random.nextInt(random.nextBoolean() ? 3 : 99));
        }
        return text.toString();
    }

    private void sayDeed() {
        if (y.status(2) > 0 && random.nextInt(5) > 0) {
            due("wipe()", x.wipe(), y.wipe());
        }
        String text = deedText();
        if (random.nextInt(4) == 0) {
            String[] tokens = text.split(" ");
            int i = random.nextInt(tokens.length);
            switch (random.nextInt(5)) {
                case 0 -> tokens[i] = pick(ODD);
                case 1 -> tokens[i] += " " + pick(ODD);
                case 2 -> tokens[i] = "";
                case 3 -> tokens[i] += pick(ODD);
                default -> tokens[i] += "  " + pick(SAYING);
            }
            text = String.join(" ", tokens);
            if (random.nextInt(3) == 0) {
                text = text.replace(" ", "");
            }
            if (random.nextInt(3) == 0) {
                text = " " + text + "  ";
            }
            if (random.nextInt(4) == 0) {
                text = text.substring(0, random.nextInt(text.length() + 1));
            }
        }
        feed(text);
        due("deed()", x.deed(), y.deed());
    }

    /** Says deeds that let a search go blind, of fields behind some of which there is no deed; often one is left out. */
    private void sayHardDeeds() {
        String[] deeds = pick(HARD).split(",");
        int ahead = random.nextInt(3) == 0 ? 1 + random.nextInt(2) : 0;
        for (int f = 0; f < 6 + ahead; f++) {
            due("field(0, 0)", x.field(0, 0), y.field(0, 0));
        }
        int leftOut = random.nextInt(2 * deeds.length);
        for (int i = 0; i < deeds.length; i++) {
            if (i != leftOut) {
                StringBuilder text = new StringBuilder();
                for (String token : deeds[i].split(" ")) {
                    boolean isField = token.charAt(0) <= '9';
                    text.append(isField ? "" + (Integer.parseInt(token) + ahead) : token).append(' ');
                }
                feed(text.toString().trim());
                due("deed()", x.deed(), y.deed());
            }
        }
        for (int i = 0; i < 40; i++) {
            make(random.nextInt(3) > 0 ? 22 + random.nextInt(18) : 55 + random.nextInt(3));
        }
    }

    private void make(int promise) {
        if (promise <= 18) {
            hold(promise);
        } else if (promise <= 39) {
            ask(promise);
        } else {
            lay(promise);
        }
    }

    private void hold(int promise) {
        int s = upTo(0, 7);
        int f = aField();
        int d = aDeed();
        switch (promise) {
            case 2 -> {
                int sort = upTo(0, 4);
                int n = random.nextBoolean() ? 64 : upTo(0, 64);
                due("row(" + s + ", " + sort + ", " + n + ")", x.row(s, sort, n), y.row(s, sort, n));
                fillRow(s, n);
            }
            case 3 -> put(s, upTo(0, 63), random.nextLong() >> random.nextInt(64));
            case 4 -> {
                int q = upTo(0, 7);
                int i = upTo(0, 20);
                int j = upTo(0, 20);
                int n = upTo(0, 30);
                due("copy(" + s + ", " + q + ", " + i + ", " + j + ", " + n + ")", x.copy(s, q, i, j, n), y.copy(s, q, i, j, n));
            }
            case 5 -> {
                int i = upTo(0, 63);
                due("element(" + s + ", " + i + ")", x.element(s, i), y.element(s, i));
            }
            case 6 -> due("holds(" + s + ")", x.holds(s), y.holds(s));
            case 7 -> {
                int shown = random.nextInt(8) == 0 ? -1 : f;
                due("show(" + s + ", " + shown + ")", x.show(s, shown), y.show(s, shown));
            }
            case 8 -> {
                int kind = upTo(0, 4);
                due("says(" + s + ", " + kind + ")", x.says(s, kind), y.says(s, kind));
            }
            case 9 -> {
                if (y.status(0) < mostFields || random.nextInt(30) == 0) {
                    int kind = upTo(0, 3);
                    int year = year();
                    due("field(" + kind + ", " + year + ")", x.field(kind, year), y.field(kind, year));
                }
            }
            case 10 -> {
                int what = upTo(0, 3);
                due("fieldOf(" + f + ", " + what + ")", x.fieldOf(f, what), y.fieldOf(f, what));
            }
            case 11 -> {
                if (y.status(0) + 2 <= mostFields || random.nextInt(10) == 0) {
                    int year = year();
                    due("part(" + f + ", " + year + ")", x.part(f, year), y.part(f, year));
                }
            }
            case 12 -> {
                int v = random.nextInt();
                int n = upTo(1, 4);
                due("feed(" + v + ", " + n + ")", x.feed(v, n), y.feed(v, n));
            }
            case 13 -> due("wipe()", x.wipe(), y.wipe());
            case 14 -> due("deed()", x.deed(), y.deed());
            case 15 -> {
                int what = upTo(0, 6);
                due("deedOf(" + d + ", " + what + ")", x.deedOf(d, what), y.deedOf(d, what));
            }
            case 16 -> {
                boolean drops = random.nextInt(3) > 0;
                due("drop(" + d + ", " + drops + ")", x.drop(d, drops), y.drop(d, drops));
            }
            case 17 -> {
                int v = upTo(1, random.nextBoolean() ? 4 : 99);
                due("weigh(" + d + ", " + v + ")", x.weigh(d, v), y.weigh(d, v));
            }
            default -> {
                int old = upTo(0, 3);
                int way = upTo(-1, 7);
                due("mean(" + old + ", " + way + ")", x.mean(old, way), y.mean(old, way));
            }
        }
    }

    private void put(int s, int i, long v) {
        due("set(" + s + ", " + i + ", " + v + ")", x.set(s, i, v), y.set(s, i, v));
    }

    /** Puts a box into a row, often with something more or less. */
    private void fillRow(int s, int n) {
        int row = random.nextInt(8);
        int column = random.nextInt(8);
        int lastRow = Math.min(7, row + random.nextInt(4));
        int lastColumn = Math.min(7, column + random.nextInt(4));
        for (int r = row; r <= lastRow; r++) {
            for (int c = column; c <= lastColumn; c++) {
                if (random.nextInt(25) > 0) {
                    put(s, r * 8 + c, 1 + random.nextInt(255));
                }
            }
        }
        if (random.nextInt(4) == 0 || n < 64) {
            put(s, upTo(0, 64), 1);
        }
        int f = aField();
        due("ground(" + f + ", " + s + ")", x.ground(f, s), y.ground(f, s));
    }

    private void ask(int promise) {
        int a = aField();
        int b = random.nextInt(20) > 0 && y.status(0) > 1 ? (a + 1 + random.nextInt(y.status(0) - 1)) % y.status(0) : aField();
        int year = year();
        switch (promise) {
            case 19 -> {
                int set = aSet();
                due("turned(" + set + ")", x.turned(set), y.turned(set));
            }
            case 20 -> {
                int way = upTo(0, 7);
                int other = upTo(0, 7);
                due("three(" + way + ", " + other + ")", x.three(way, other), y.three(way, other));
            }
            case 21 -> {
                int set = aSet();
                int other = aSet();
                due("follow(" + set + ", " + other + ")", x.follow(set, other), y.follow(set, other));
            }
            case 22 -> due("ways(" + a + ", " + b + ", " + year + ")", x.ways(a, b, year), y.ways(a, b, year));
            case 23 -> due("shrink(" + year + ")", x.shrink(year), y.shrink(year));
            case 24 -> due("known(" + a + ", " + b + ", " + year + ")", x.known(a, b, year), y.known(a, b, year));
            case 25 -> due("can(" + year + ")", x.can(year), y.can(year));
            case 26 -> due("choose(" + year + ")", x.choose(year), y.choose(year));
            case 27 -> due("blind(" + year + ")", x.blind(year), y.blind(year));
            case 28 -> due("told(" + a + ", " + b + ", " + year + ")", x.told(a, b, year), y.told(a, b, year));
            case 29 -> {
                int most = random.nextInt(4) > 0 ? upTo(1, 20) : random.nextInt(20) == 0 ? 500 : upTo(1, 60);
                due("many(" + year + ", " + most + ")", x.many(year, most), y.many(year, most));
            }
            case 30 -> due("may(" + a + ", " + b + ", " + year + ")", x.may(a, b, year), y.may(a, b, year));
            case 31 -> due("must(" + a + ", " + b + ", " + year + ")", x.must(a, b, year), y.must(a, b, year));
            default -> askQuarrels(promise, year);
        }
    }

    /** Whether four fields are told of well enough that not nearly all searches are spent. */
    private boolean isQuickToTally(int year) {
        if (y.status(0) < 4 || random.nextInt(30) == 0) {
            return true;
        }
        due("shrink(" + year + ")", x.shrink(year), y.shrink(year));
        return y.shrink(Math.floorMod(year, 1000)) > 3;
    }

    private void askQuarrels(int promise, int year) {
        // These are dear: with many fields they are asked less often.
        if (random.nextInt(y.status(0) > 5 ? 12 : 3) > 0) {
            return;
        }
        int old = upTo(0, 3);
        switch (promise) {
            case 32 -> due("quarrel(" + year + ")", x.quarrel(year), y.quarrel(year));
            case 33 -> due("small(" + year + ")", x.small(year), y.small(year));
            case 34 -> due("doubt(" + year + ")", x.doubt(year), y.doubt(year));
            case 35 -> due("drops(" + year + ")", x.drops(year), y.drops(year));
            case 36 -> due("rival(" + year + ")", x.rival(year), y.rival(year));
            case 37 -> due("word(" + old + ", " + year + ")", x.word(old, year), y.word(old, year));
            case 38 -> {
                if (isQuickToTally(year)) {
                    due("settle(" + year + ")", x.settle(year), y.settle(year));
                }
            }
            default -> {
                if (isQuickToTally(year)) {
                    due("left(" + year + ")", x.left(year), y.left(year));
                }
            }
        }
    }

    private void lay(int promise) {
        int a = aField();
        int b = aField();
        int year = year();
        int order = upTo(0, 2);
        int s = upTo(0, 7);
        switch (promise) {
            case 40 -> due("ring(" + order + ", " + year + ")", x.ring(order, year), y.ring(order, year));
            case 41 -> due("rank(" + order + ", " + a + ", " + year + ")", x.rank(order, a, year), y.rank(order, a, year));
            case 42 -> due("lay(" + year + ")", x.lay(year), y.lay(year));
            case 43 -> {
                int cell = upTo(0, 8 * mostFields);
                due("cell(" + cell + ", " + a + ")", x.cell(cell, a), y.cell(cell, a));
            }
            case 44 -> {
                int cell = upTo(0, 8 * mostFields);
                due("mate(" + cell + ")", x.mate(cell), y.mate(cell));
            }
            case 45 -> due("laid(" + a + ", " + b + ")", x.laid(a, b), y.laid(a, b));
            case 46 -> due("ground(" + a + ", " + s + ")", x.ground(a, s), y.ground(a, s));
            case 47 -> due("groundOf(" + a + ")", x.groundOf(a), y.groundOf(a));
            case 48 -> due("lies(" + a + ", " + b + ")", x.lies(a, b), y.lies(a, b));
            case 49 -> due("judge(" + year + ")", x.judge(year), y.judge(year));
            case 50 -> due("right(" + a + ")", x.right(a), y.right(a));
            case 51 -> {
                int set = random.nextInt(20) == 0 ? random.nextInt() : upTo(1, (1 << y.status(0)) - 1);
                due("whole(" + a + ", " + set + ")", x.whole(a, set), y.whole(a, set));
            }
            case 52 -> {
                int n = upTo(1, 100);
                due("draw(" + n + ")", x.draw(n), y.draw(n));
            }
            default -> goOn(promise, year);
        }
    }

    private void goOn(int promise, int year) {
        switch (promise) {
            case 53 -> {
                int way = upTo(0, 7);
                int other = upTo(0, 7);
                due("found(" + way + ", " + other + ")", x.found(way, other), y.found(way, other));
            }
            case 54 -> {
                int v = random.nextInt();
                due("seed(" + v + ")", x.seed(v), y.seed(v));
            }
            case 55 -> due("begin(" + year + ")", x.begin(year), y.begin(year));
            case 56 -> {
                int n = random.nextInt(3) > 0 ? upTo(1, 4) : upTo(1, 999);
                due("step(" + n + ")", x.step(n), y.step(n));
            }
            case 57 -> {
                int what = upTo(0, 4);
                due("search(" + what + ")", x.search(what), y.search(what));
            }
            case 58 -> {
                if (random.nextInt(4) == 0) {
                    due("image()", x.image(), y.image());
                }
            }
            case 59 -> {
                if (random.nextInt(6) == 0) {
                    due("back()", x.back(), y.back());
                }
            }
            default -> {
                int what = random.nextBoolean() ? upTo(0, 4) : upTo(12, 16);
                due("status(" + what + ")", x.status(what), y.status(what));
            }
        }
    }
}
