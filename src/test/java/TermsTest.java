import java.io.IOException;
import java.nio.charset.StandardCharsets;
import java.nio.file.Files;
import java.nio.file.Path;
import java.util.ArrayList;
import java.util.Arrays;
import java.util.List;
import java.util.Random;
import java.util.regex.Matcher;
import java.util.regex.Pattern;

/**
 * What the terms say, without a SEARCH: small lands of which all TELLINGS are listed, one WAY after the other for each
 * PAIR, and all sets of DEEDS, FIELDS that follow each other; THREE is read from the document.
 */
public final class TermsTest {
    private static final Path DOCUMENT = Path.of("../shared/DOC.md");
    private static final int NONE = Due.NONE;
    private static final int STATE = Due.STATE;
    private static final int[][] PAIRS = {{0, 1}, {0, 2}, {1, 2}, {0, 3}, {1, 3}, {2, 3}};
    private static final int[] TURNED = {0, 1, 2, 5, 6, 3, 4, 7};
    private static final String[] ORDERS = {"north", "east", "larger"};
    private static final int[] ORDERS_LET = {3, 103, 103};
    private static final int YEAR = 5;
    private static final int LANDS = 700;
    /** So many TELLINGS of four FIELDS are gone through with far fewer than 20,000 CHOICES. */
    private static final int FEW = 2000;

    private static int[][] three;

    /** A DEED as it is said: OLD WORDS are the bits 8 to 11 of what is said. */
    private record Said(int a, int b, int set, boolean not, int order, int year, int weight) {
        int lets(int[] means) {
            if (order != NONE) {
                return ORDERS_LET[order];
            }
            int ways = set & 255;
            for (int word = 0; word < 4; word++) {
                if ((set >> 8 + word & 1) != 0) {
                    if (means[word] == NONE) {
                        return 255;
                    }
                    ways |= 1 << means[word];
                }
            }
            return not ? 255 - ways : ways;
        }

        String text() {
            List<String> ones = new ArrayList<>();
            for (int i = 0; i < 12; i++) {
                if ((set >> i & 1) != 0) {
                    ones.add(i < 8 ? Due.WAYS[i] : "old " + (i - 8));
                }
            }
            String says = order != NONE ? ORDERS[order] : (not ? "not " : "") + String.join(" or ", ones);
            return a + " " + says + " " + b + " year " + year + " weight " + weight;
        }
    }

    private final Random random;
    private final DeedCourt x = new DeedCourt();
    private final List<Said> deeds = new ArrayList<>();
    private final int[] means = {NONE, NONE, NONE, NONE};
    private final String name;
    private int fields;
    private boolean isParted;

    private TermsTest(int seed) {
        random = new Random(seed);
        name = "land " + seed;
    }

    public static void main(String[] args) throws IOException {
        readThree();
        int few = 0;
        int none = 0;
        for (int seed = 0; seed < LANDS; seed++) {
            TermsTest test = new TermsTest(seed);
            test.make();
            int tellings = test.tellings();
            few += tellings > 0 && tellings <= FEW ? 1 : 0;
            none += tellings == 0 ? 1 : 0;
            test.quarrels();
            test.word();
            for (int order = 0; order < 3; order++) {
                test.order(order);
            }
        }
        Due.is(29, "lands with few TELLINGS are some hundred", few > 100 ? 1 : 0, 1);
        Due.is(29, "and so are those with none", none > 100 ? 1 : 0, 1);
        Due.end("TermsTest");
    }

    /** The row of eight numbers for each WAY, as the document has it. */
    private static void readThree() throws IOException {
        String document = Files.readString(DOCUMENT, StandardCharsets.UTF_8);
        Matcher m = Pattern.compile("255 31 [0-9 /]*128").matcher(document);
        Due.is(20, "the document has THREE", m.find() ? 1 : 0, 1);
        String[] rows = m.group().split(" / ");
        three = new int[8][8];
        DeedCourt x = new DeedCourt();
        for (int way = 0; way < 8; way++) {
            String[] row = rows[way].split(" ");
            for (int other = 0; other < 8; other++) {
                three[way][other] = Integer.parseInt(row[other]);
                Due.is(20, "three(" + way + ", " + other + ")", x.three(way, other), three[way][other]);
            }
        }
    }

    private void make() {
        fields = 2 + random.nextInt(3);
        isParted = fields > 2 && random.nextInt(3) == 0;
        for (int f = 0; f < (isParted ? fields - 2 : fields); f++) {
            x.field(0, 0);
        }
        if (isParted) {
            // In the YEAR or behind it: then nothing of it counts.
            Due.is(11, name + ", part", x.part(0, YEAR + random.nextInt(2)), fields - 2);
            isParted = x.fieldOf(0, 2) <= YEAR;
        }
        int most = random.nextInt(8);
        int orderly = 2 + random.nextInt(8);
        for (int d = 0; d < most; d++) {
            int a = random.nextInt(fields);
            int b = (a + 1 + random.nextInt(fields - 1)) % fields;
            int order = random.nextInt(orderly) == 0 ? random.nextInt(3) : NONE;
            int set = 1 << random.nextInt(8) | 1 << random.nextInt(8) | 1 << random.nextInt(12);
            int year = random.nextInt(6) == 0 ? YEAR + 1 : random.nextInt(YEAR + 1);
            Said deed = new Said(a, b, set, random.nextInt(4) == 0, order, year, 1 + random.nextInt(3));
            Due.is(14, name + ", deed() of " + deed.text(), Due.deed(x, deed.text()), deeds.size());
            deeds.add(deed);
        }
        for (int word = 0; word < 4; word++) {
            means[word] = random.nextInt(9) - 1;
            x.mean(word, means[word]);
        }
    }

    // TELLINGS

    /** The SET of each PAIR by some DEEDS AS OF the YEAR. */
    private int[] sets(int among) {
        int[] sets = new int[fields * (fields - 1) / 2];
        for (int k = 0; k < sets.length; k++) {
            int set = 255;
            for (int d = 0; d < deeds.size(); d++) {
                if ((among >> d & 1) != 0) {
                    set &= ofPair(k, deeds.get(d).a, deeds.get(d).b, deeds.get(d).lets(means));
                }
            }
            if (isParted) {
                set &= ofPair(k, fields - 2, 0, 24) & ofPair(k, fields - 1, 0, 24) & ofPair(k, fields - 2, fields - 1, 3);
            }
            sets[k] = set;
        }
        return sets;
    }

    /** What is let of a to b, for a PAIR: all, if it is another one. */
    private static int ofPair(int k, int a, int b, int let) {
        if (PAIRS[k][0] == a && PAIRS[k][1] == b) {
            return let;
        }
        return PAIRS[k][0] == b && PAIRS[k][1] == a ? turn(let) : 255;
    }

    private static int turn(int set) {
        int turned = 0;
        for (int way = 0; way < 8; way++) {
            turned |= (set >> way & 1) << TURNED[way];
        }
        return turned;
    }

    /** All TELLINGS in their order, but no more than so many. */
    private List<int[]> list(int[] sets, int most) {
        List<int[]> tellings = new ArrayList<>();
        goThrough(sets, new int[sets.length], 0, tellings, most);
        return tellings;
    }

    private void goThrough(int[] sets, int[] telling, int k, List<int[]> tellings, int most) {
        if (k == sets.length) {
            tellings.add(telling.clone());
            return;
        }
        for (int way = 0; way < 8 && tellings.size() < most; way++) {
            telling[k] = way;
            if ((sets[k] >> way & 1) != 0 && isFine(telling, k)) {
                goThrough(sets, telling, k + 1, tellings, most);
            }
        }
    }

    /** Whether a PAIR's WAY goes with those of the PAIRS ahead of it: three FIELDS are told of with their last PAIR. */
    private static boolean isFine(int[] telling, int k) {
        for (int b = 0; b < PAIRS[k][0]; b++) {
            if (!follow(telling, b, PAIRS[k][0], PAIRS[k][1])) {
                return false;
            }
        }
        return true;
    }

    /** Whether of three FIELDS each lies to each by what follows. */
    private static boolean follow(int[] telling, int a, int b, int c) {
        int[][] orders = {{a, b, c}, {a, c, b}, {b, a, c}, {b, c, a}, {c, a, b}, {c, b, a}};
        for (int[] o : orders) {
            int follows = three[way(telling, o[0], o[1])][way(telling, o[1], o[2])];
            if ((follows >> way(telling, o[0], o[2]) & 1) == 0) {
                return false;
            }
        }
        return true;
    }

    private static int way(int[] telling, int a, int b) {
        for (int k = 0; k < PAIRS.length; k++) {
            if (PAIRS[k][0] == a && PAIRS[k][1] == b) {
                return telling[k];
            }
        }
        return TURNED[way(telling, b, a)];
    }

    /** "one WAY of its SET for each PAIR, so that the SETS so made and SHRUNK have none that is empty": how many. */
    private int tellings() {
        int[] sets = sets(asOf());
        List<int[]> all = list(sets, FEW + 1);
        Due.is(25, name + ", can", x.can(YEAR), canBe(asOf()) ? 1 : 0);
        Due.is(29, name + ", many", x.many(YEAR, 500), Math.min(all.size(), 500));
        Due.is(29, name + ", many, three at most", x.many(YEAR, 3), Math.min(all.size(), 3));
        for (int k = 0; k < sets.length; k++) {
            int a = PAIRS[k][0];
            int b = PAIRS[k][1];
            int told = all.isEmpty() ? NONE : all.get(0)[k];
            int may = may(sets, k);
            int must = Integer.bitCount(may) == 1 ? Integer.numberOfTrailingZeros(may) : NONE;
            Due.is(22, name + ", ways of " + a + " to " + b, x.ways(a, b, YEAR), sets[k]);
            Due.is(22, name + ", ways of " + b + " to " + a, x.ways(b, a, YEAR), turn(sets[k]));
            Due.is(28, name + ", told of " + a + " to " + b, x.told(a, b, YEAR), told);
            Due.is(28, name + ", told of " + b + " to " + a, x.told(b, a, YEAR), told == NONE ? NONE : TURNED[told]);
            Due.is(30, name + ", may of " + a + " to " + b, x.may(a, b, YEAR), may);
            Due.is(30, name + ", may of " + b + " to " + a, x.may(b, a, YEAR), turn(may));
            Due.is(31, name + ", must of " + a + " to " + b, x.must(a, b, YEAR), must);
            Due.is(31, name + ", must of " + b + " to " + a, x.must(b, a, YEAR), must == NONE ? NONE : TURNED[must]);
            Due.is(24, name + ", known has what may be", x.known(a, b, YEAR) & may, may);
        }
        if (all.size() <= FEW) {
            settle(all, sets.length);
        }
        return all.size();
    }

    private int may(int[] sets, int k) {
        int may = 0;
        for (int way = 0; way < 8; way++) {
            int[] alone = sets.clone();
            alone[k] &= 1 << way;
            may |= list(alone, 1).isEmpty() ? 0 : 1 << way;
        }
        return may;
    }

    /** "for each PAIR the greatest number of TELLINGS with one WAY of it; the PAIR for which this is least". */
    private void settle(List<int[]> all, int pairs) {
        int best = NONE;
        int least = Integer.MAX_VALUE;
        for (int k = 0; k < pairs; k++) {
            int[] counts = new int[8];
            for (int[] telling : all) {
                counts[telling[k]]++;
            }
            int greatest = Arrays.stream(counts).max().getAsInt();
            if (greatest < least) {
                least = greatest;
                best = 100 * PAIRS[k][0] + PAIRS[k][1];
            }
        }
        Due.is(38, name + ", settle", x.settle(YEAR), all.isEmpty() ? NONE : best);
        Due.is(39, name + ", left", x.left(YEAR), least);
    }

    // DEEDS that quarrel

    private int asOf() {
        int among = 0;
        for (int d = 0; d < deeds.size(); d++) {
            among |= deeds.get(d).year <= YEAR ? 1 << d : 0;
        }
        return among;
    }

    private boolean canBe(int among) {
        for (int order = 0; order < 3; order++) {
            if (shortestRing(order, among) != NONE) {
                return false;
            }
        }
        return !list(sets(among), 1).isEmpty();
    }

    private int weights(int set) {
        int sum = 0;
        for (int d = 0; d < deeds.size(); d++) {
            sum += (set >> d & 1) * deeds.get(d).weight;
        }
        return sum;
    }

    /** The least sum of weights of some without which it CAN be. */
    private int leastSum() {
        int among = asOf();
        int least = Integer.MAX_VALUE;
        for (int set = 0; set <= among; set++) {
            if ((set & ~among) == 0 && canBe(among & ~set)) {
                least = Math.min(least, weights(set));
            }
        }
        return least;
    }

    /** All sets of the DEEDS are looked at, whatever is part of what. */
    private void quarrels() {
        int among = asOf();
        int quarrel = 0;
        int small = canBe(among) ? 0 : 99;
        int sum = leastSum();
        int drops = NONE;
        int rivals = 0;
        for (int set = 0; set <= among; set++) {
            if ((set & ~among) != 0) {
                continue;
            }
            if (Integer.bitCount(set) < small && !canBe(set)) {
                small = Integer.bitCount(set);
                quarrel = set;
            }
            if (weights(set) == sum && canBe(among & ~set)) {
                drops = drops == NONE ? set : drops;
                rivals++;
            }
        }
        Due.is(32, name + ", quarrel", x.quarrel(YEAR), quarrel);
        Due.is(33, name + ", small", x.small(YEAR), small);
        Due.is(34, name + ", doubt", x.doubt(YEAR), sum);
        Due.is(35, name + ", drops", x.drops(YEAR), drops);
        Due.is(36, name + ", rival", x.rival(YEAR), rivals);
    }

    private void word() {
        int word = random.nextInt(4);
        int meant = means[word];
        int best = NONE;
        int least = Integer.MAX_VALUE;
        for (int way = 0; way < 8; way++) {
            means[word] = way;
            int sum = leastSum();
            if (sum < least) {
                least = sum;
                best = way;
            }
        }
        means[word] = meant;
        Due.is(37, name + ", word " + word, x.word(word, YEAR), best);
    }

    // ORDERS

    private boolean isDeed(int order, int among, int a, int b) {
        for (int d = 0; d < deeds.size(); d++) {
            Said deed = deeds.get(d);
            if ((among >> d & 1) != 0 && deed.order == order && deed.a == a && deed.b == b) {
                return true;
            }
        }
        return false;
    }

    private int shortestRing(int order, int among) {
        int shortest = NONE;
        for (int f = 0; f < fields; f++) {
            int length = ringBehind(order, among, f, f, 1 << f);
            shortest = shortest == NONE || length != NONE && length < shortest ? length : shortest;
        }
        return shortest;
    }

    /** The fewest FIELDS of a RING that begins with the first one, went through some, and is at the last one now. */
    private int ringBehind(int order, int among, int first, int last, int some) {
        if (isDeed(order, among, last, first)) {
            return Integer.bitCount(some);
        }
        int shortest = NONE;
        for (int next = 0; next < fields; next++) {
            if ((some >> next & 1) == 0 && isDeed(order, among, last, next)) {
                int length = ringBehind(order, among, first, next, some | 1 << next);
                shortest = shortest == NONE || length != NONE && length < shortest ? length : shortest;
            }
        }
        return shortest;
    }

    private int rank(int order, int field) {
        int rank = 0;
        for (int next = 0; next < fields; next++) {
            if (isDeed(order, asOf(), field, next)) {
                rank = Math.max(rank, 1 + rank(order, next));
            }
        }
        return rank;
    }

    private void order(int order) {
        int ring = shortestRing(order, asOf());
        Due.is(40, name + ", ring of " + ORDERS[order], x.ring(order, YEAR), ring);
        for (int f = 0; f < fields; f++) {
            int rank = ring == NONE ? rank(order, f) : STATE;
            Due.is(41, name + ", rank of " + f + ", " + ORDERS[order], x.rank(order, f, YEAR), rank);
        }
    }
}
