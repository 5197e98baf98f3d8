import java.util.ArrayList;
import java.util.Arrays;
import java.util.List;
import java.util.TreeSet;
import java.util.regex.Matcher;
import java.util.regex.Pattern;

/**
 * The document once more, as slow and as plain as can be, to compare DeedCourt with: sets of cells and of fields are
 * sets, searches are recursions that copy all they hold, a search under way is one that was made to its end.
 */
final class PlainCourt {
    static final int NONE = -1;
    static final int BAD = -2, OTHER = -3, NOTHING = -4, STATE = -5, FULL = -6;
    static final int MOST_CHOICES = 20000;
    private static final int[][] THREE = {
        {255, 31, 31, 31, 31, 1, 1, 1}, {103, 175, 31, 30, 28, 3, 1, 2}, {103, 103, 255, 28, 28, 103, 103, 4},
        {1, 3, 31, 24, 16, 175, 103, 8}, {1, 1, 31, 16, 16, 31, 255, 16}, {103, 102, 100, 172, 28, 96, 64, 32},
        {103, 100, 100, 100, 252, 64, 64, 64}, {1, 2, 4, 8, 16, 32, 64, 128}};
    private static final int[] TURN = {0, 1, 2, 5, 6, 3, 4, 7};
    private static final int[][] FOLLOW = new int[256][256];
    private static final List<String> SAYING =
        List.of("apart", "touch", "over", "edge", "inside", "round", "holds", "same");
    private static final List<String> ORDER = List.of("north", "east", "larger");
    private static final Pattern TOKEN = Pattern.compile("[a-z]+|[0-9]+|[^ ]", Pattern.DOTALL);

    static {
        for (int s = 1; s < 256; s++) {
            for (int t = 1; t < 256; t++) {
                for (int i = 0; i < 8; i++) {
                    for (int j = 0; j < 8; j++) {
                        if ((s & 1 << i) != 0 && (t & 1 << j) != 0) {
                            FOLLOW[s][t] |= THREE[i][j];
                        }
                    }
                }
            }
        }
    }

    private static final class F {
        int kind, from, parted = NONE, part = NONE;
        TreeSet<Integer> ground = new TreeSet<>();

        F copy() {
            F f = new F();
            f.kind = kind;
            f.from = from;
            f.parted = parted;
            f.part = part;
            f.ground = new TreeSet<>(ground);
            return f;
        }
    }

    private static final class D {
        int first, second, year = 0, weight = 1, order = NONE;
        TreeSet<Integer> said = new TreeSet<>(), olds = new TreeSet<>();
        boolean not, dropped;

        D copy() {
            D d = new D();
            d.first = first;
            d.second = second;
            d.year = year;
            d.weight = weight;
            d.order = order;
            d.said = new TreeSet<>(said);
            d.olds = new TreeSet<>(olds);
            d.not = not;
            d.dropped = dropped;
            return d;
        }
    }

    /** What happened in a search: after each choice how many are blind, and how many pairs have a way. */
    private static final class Trace {
        int pairs;
        int year;
        int end;
        List<Integer> blinds = new ArrayList<>();
        List<Integer> depths = new ArrayList<>();
        List<int[][]> tellings = new ArrayList<>();
        int wanted;

        int blind() {
            return blinds.isEmpty() ? 0 : blinds.get(blinds.size() - 1);
        }
    }

    private static final class Fault extends RuntimeException {
        private static final long serialVersionUID = 1;
        final int place;

        Fault(int place) {
            this.place = place;
        }
    }

    private static final class World {
        List<F> fields = new ArrayList<>();
        List<D> deeds = new ArrayList<>();
        int[] means = {NONE, NONE, NONE, NONE};
        int seed = 1;
        int[][] found = new int[8][8];
        List<TreeSet<Integer>> cells = new ArrayList<>();
        List<Integer> mates = new ArrayList<>();
        Trace trace;
        int made;

        World copy() {
            World w = new World();
            for (F f : fields) {
                w.fields.add(f.copy());
            }
            for (D d : deeds) {
                w.deeds.add(d.copy());
            }
            w.means = means.clone();
            w.seed = seed;
            for (int i = 0; i < 8; i++) {
                w.found[i] = found[i].clone();
            }
            w.cells = new ArrayList<>(cells);
            w.mates = new ArrayList<>(mates);
            w.trace = trace;
            w.made = made;
            return w;
        }
    }

    private World w = new World();
    private World kept;
    private String tape = "";
    private final int[] shelfKind = new int[8];
    private final int[] shelfField = new int[8];
    private final int[] shelfSort = new int[8];
    private final long[][] shelfRow = new long[8][];
    private final int[] refused = new int[7];

    private int no(int number) {
        refused[-number]++;
        return number;
    }

    private static boolean within(int v, int least, int most) {
        return v >= least && v <= most;
    }

    private boolean isField(int f) {
        return within(f, 0, w.fields.size() - 1);
    }

    private boolean isDeed(int d) {
        return within(d, 0, w.deeds.size() - 1);
    }

    // shelves: kind 0 nothing, 1 a row, 2 a field

    int row(int s, int sort, int n) {
        if (!within(s, 0, 7) || !within(sort, 0, 4) || !within(n, 0, 64)) {
            return no(BAD);
        }
        shelfKind[s] = 1;
        shelfSort[s] = sort;
        shelfRow[s] = new long[n];
        return 1;
    }

    int set(int s, int i, long v) {
        if (!within(s, 0, 7)) {
            return no(BAD);
        }
        if (shelfKind[s] == 2) {
            return no(OTHER);
        }
        if (shelfKind[s] == 0) {
            return no(NOTHING);
        }
        if (!within(i, 0, shelfRow[s].length - 1)) {
            return no(BAD);
        }
        long[] cut = {(byte) v, (short) v, (int) v, v, v == 0 ? 0 : 1};
        shelfRow[s][i] = cut[shelfSort[s]];
        return 1;
    }

    int copy(int p, int q, int i, int j, int n) {
        if (!within(p, 0, 7) || !within(q, 0, 7)) {
            return no(BAD);
        }
        if (shelfKind[p] == 2 || shelfKind[q] == 2) {
            return no(OTHER);
        }
        if (shelfKind[p] == 1 && shelfKind[q] == 1 && shelfSort[p] != shelfSort[q]) {
            return no(OTHER);
        }
        if (shelfKind[p] == 0 || shelfKind[q] == 0) {
            return no(NOTHING);
        }
        long lastFrom = (long) i + n;
        long lastTo = (long) j + n;
        if (n < 0 || i < 0 || j < 0 || lastFrom > shelfRow[p].length || lastTo > shelfRow[q].length) {
            return no(BAD);
        }
        long[] asTheyWere = shelfRow[p].clone();
        for (int k = 0; k < n; k++) {
            shelfRow[q][j + k] = asTheyWere[i + k];
        }
        return n;
    }

    long element(int s, int i) {
        if (!within(s, 0, 7) || shelfKind[s] != 1 || !within(i, 0, shelfRow[s].length - 1)) {
            return 0;
        }
        return shelfRow[s][i];
    }

    int holds(int s) {
        if (!within(s, 0, 7) || shelfKind[s] == 0) {
            return NONE;
        }
        return shelfKind[s] == 1 ? shelfSort[s] : 10 + shelfField[s];
    }

    int show(int s, int field) {
        if (!within(s, 0, 7) || (field != NONE && !isField(field))) {
            return no(BAD);
        }
        shelfKind[s] = field == NONE ? 0 : 2;
        shelfField[s] = field;
        return 1;
    }

    int says(int s, int kind) {
        if (!within(s, 0, 7) || !within(kind, 0, 4)) {
            return no(BAD);
        }
        if (shelfKind[s] == 1) {
            return no(OTHER);
        }
        if (shelfKind[s] == 0) {
            return no(NOTHING);
        }
        F f = w.fields.get(shelfField[s]);
        List<List<Integer>> kinds =
            List.of(List.of(0), List.of(0, 1), List.of(0, 1, 2), List.of(0, 1, 2, 3), List.of(0, 4));
        if (!kinds.get(f.kind).contains(kind)) {
            return no(OTHER);
        }
        if (kind == 0) {
            return shelfField[s];
        }
        if (kind == 1) {
            return f.ground.size();
        }
        if (kind == 2) {
            int rim = 0;
            for (int c : f.ground) {
                rim += isRim(c) ? 1 : 0;
            }
            return rim;
        }
        if (kind == 4) {
            return f.part;
        }
        if (f.ground.isEmpty()) {
            return NONE;
        }
        int row = 9;
        int column = 9;
        for (int c : f.ground) {
            row = Math.min(row, c / 8);
            column = Math.min(column, c % 8);
        }
        return 100 * row + column;
    }

    // fields

    int field(int kind, int year) {
        if (!within(kind, 0, 3) || !within(year, 0, 999)) {
            return no(BAD);
        }
        if (w.fields.size() == 10) {
            return no(FULL);
        }
        F f = new F();
        f.kind = kind;
        f.from = year;
        w.fields.add(f);
        return w.fields.size() - 1;
    }

    int fieldOf(int field, int what) {
        if (!isField(field) || !within(what, 0, 3)) {
            return no(BAD);
        }
        F f = w.fields.get(field);
        return List.of(f.kind, f.from, f.parted, f.part).get(what);
    }

    int part(int field, int year) {
        if (!isField(field) || !within(year, w.fields.get(field).from, 999)) {
            return no(BAD);
        }
        F f = w.fields.get(field);
        if (f.kind == 4) {
            return no(STATE);
        }
        if (w.fields.size() > 8) {
            return no(FULL);
        }
        int first = field(f.kind, year);
        field(f.kind, year);
        f.kind = 4;
        f.parted = year;
        f.part = first;
        return first;
    }

    // the tape

    int feed(int v, int n) {
        if (!within(n, 1, 4)) {
            return no(BAD);
        }
        if (tape.length() + n > 80) {
            return no(FULL);
        }
        String bytes = "";
        for (int i = 0; i < n; i++) {
            bytes = (char) (v & 255) + bytes;
            v >>>= 8;
        }
        tape += bytes;
        return tape.length();
    }

    int wipe() {
        int ahead = tape.length();
        tape = "";
        return ahead;
    }

    int deed() {
        if (w.deeds.size() == 24) {
            return no(FULL);
        }
        try {
            w.deeds.add(read(tape));
            return w.deeds.size() - 1;
        } catch (Fault fault) {
            refused[2]++;
            return -20 - fault.place;
        } finally {
            tape = "";
        }
    }

    private List<String> tokens;
    private List<Integer> places;
    private int at;

    private D read(String text) {
        tokens = new ArrayList<>();
        places = new ArrayList<>();
        at = 0;
        Matcher m = TOKEN.matcher(text);
        while (m.find()) {
            tokens.add(m.group());
            places.add(m.start());
        }
        tokens.add("");
        places.add(text.length());
        D d = new D();
        d.first = number(0, w.fields.size() - 1, NONE);
        if (ORDER.contains(tokens.get(at))) {
            d.order = ORDER.indexOf(tokens.get(at++));
        } else {
            d.not = took("not");
            do {
                one(d);
            } while (took("or"));
        }
        d.second = number(0, w.fields.size() - 1, d.first);
        if (took("year")) {
            d.year = number(0, 999, NONE);
        }
        if (took("weight")) {
            d.weight = number(1, 99, NONE);
        }
        if (!tokens.get(at).isEmpty()) {
            throw new Fault(places.get(at));
        }
        return d;
    }

    private void one(D d) {
        String word = tokens.get(at);
        if (SAYING.contains(word)) {
            d.said.add(SAYING.indexOf(word));
            at++;
        } else if (took("within")) {
            d.said.addAll(List.of(3, 4));
        } else if (took("old")) {
            d.olds.add(number(0, 3, NONE));
        } else {
            throw new Fault(places.get(at));
        }
    }

    private boolean took(String word) {
        if (tokens.get(at).equals(word)) {
            at++;
            return true;
        }
        return false;
    }

    private int number(int least, int most, int butNot) {
        String token = tokens.get(at);
        if (!token.matches("[0-9]{1,3}")) {
            throw new Fault(places.get(at));
        }
        int value = Integer.parseInt(token);
        if (!within(value, least, most) || value == butNot) {
            throw new Fault(places.get(at));
        }
        at++;
        return value;
    }

    // deeds

    private int lets(D d) {
        if (d.order != NONE) {
            return d.order == 0 ? 3 : 255 - 8 - 16 - 128;
        }
        TreeSet<Integer> ways = new TreeSet<>(d.said);
        for (int old : d.olds) {
            if (w.means[old] == NONE) {
                return 255;
            }
            ways.add(w.means[old]);
        }
        int set = 0;
        for (int way = 0; way < 8; way++) {
            if (ways.contains(way) != d.not) {
                set += 1 << way;
            }
        }
        return set;
    }

    int deedOf(int deed, int what) {
        if (!isDeed(deed) || !within(what, 0, 6)) {
            return no(BAD);
        }
        D d = w.deeds.get(deed);
        return List.of(d.first, d.second, d.year, d.weight, d.order, lets(d), d.dropped ? 1 : 0).get(what);
    }

    int drop(int deed, boolean drops) {
        if (!isDeed(deed)) {
            return no(BAD);
        }
        int ahead = deedOf(deed, 6);
        w.deeds.get(deed).dropped = drops;
        return ahead;
    }

    int weigh(int deed, int v) {
        if (!isDeed(deed) || !within(v, 1, 99)) {
            return no(BAD);
        }
        int ahead = deedOf(deed, 3);
        w.deeds.get(deed).weight = v;
        return ahead;
    }

    int mean(int word, int way) {
        if (!within(word, 0, 3) || !within(way, -1, 7)) {
            return no(BAD);
        }
        int ahead = w.means[word];
        w.means[word] = way;
        return ahead;
    }

    // ways

    private static int turn(int set) {
        int turned = 0;
        for (int i = 0; i < 8; i++) {
            if ((set & 1 << i) != 0) {
                turned |= 1 << TURN[i];
            }
        }
        return turned;
    }

    int turned(int set) {
        return within(set, 1, 255) ? turn(set) : no(BAD);
    }

    int three(int way, int other) {
        return within(way, 0, 7) && within(other, 0, 7) ? THREE[way][other] : no(BAD);
    }

    int follow(int set, int other) {
        return within(set, 1, 255) && within(other, 1, 255) ? FOLLOW[set][other] : no(BAD);
    }

    private List<Integer> asOf(int year) {
        List<Integer> some = new ArrayList<>();
        for (int d = 0; d < w.deeds.size(); d++) {
            if (!w.deeds.get(d).dropped && w.deeds.get(d).year <= year) {
                some.add(d);
            }
        }
        return some;
    }

    private int[][] sets(int year, List<Integer> deeds) {
        int n = w.fields.size();
        int[][] sets = new int[n][n];
        for (int[] row : sets) {
            Arrays.fill(row, 255);
        }
        for (int d : deeds) {
            only(sets, w.deeds.get(d).first, w.deeds.get(d).second, lets(w.deeds.get(d)));
        }
        for (int f = 0; f < n; f++) {
            F field = w.fields.get(f);
            if (field.parted != NONE && field.parted <= year) {
                only(sets, field.part, f, 8 | 16);
                only(sets, field.part + 1, f, 8 | 16);
                only(sets, field.part, field.part + 1, 1 | 2);
            }
        }
        return sets;
    }

    private static void only(int[][] sets, int a, int b, int let) {
        sets[a][b] &= let;
        sets[b][a] = turn(sets[a][b]);
    }

    /** Shrinks; whether none is empty. */
    private static boolean shrunk(int[][] sets) {
        int n = sets.length;
        boolean changed = true;
        while (changed) {
            changed = false;
            for (int a = 0; a < n; a++) {
                for (int b = 0; b < n; b++) {
                    for (int c = 0; c < n; c++) {
                        if (a != b && b != c && a != c) {
                            int kept = sets[a][c] & FOLLOW[sets[a][b]][sets[b][c]];
                            changed |= kept != sets[a][c];
                            sets[a][c] = kept;
                        }
                    }
                }
            }
        }
        for (int a = 0; a < n; a++) {
            for (int b = 0; b < n; b++) {
                if (a != b && sets[a][b] == 0) {
                    return false;
                }
            }
        }
        return true;
    }

    private boolean areTwo(int a, int b) {
        return isField(a) && isField(b) && a != b;
    }

    int ways(int a, int b, int year) {
        return areTwo(a, b) && within(year, 0, 999) ? sets(year, asOf(year))[a][b] : no(BAD);
    }

    int shrink(int year) {
        if (!within(year, 0, 999)) {
            return no(BAD);
        }
        int[][] ahead = sets(year, asOf(year));
        int[][] sets = sets(year, asOf(year));
        if (!shrunk(sets)) {
            return NONE;
        }
        int fewer = 0;
        for (int b = 0; b < sets.length; b++) {
            for (int a = 0; a < b; a++) {
                fewer += ahead[a][b] == sets[a][b] ? 0 : 1;
            }
        }
        return fewer;
    }

    int known(int a, int b, int year) {
        if (!areTwo(a, b) || !within(year, 0, 999)) {
            return no(BAD);
        }
        int[][] sets = sets(year, asOf(year));
        return shrunk(sets) ? sets[a][b] : 0;
    }

    // searches

    private static final RuntimeException STOP = new RuntimeException();

    private static int[] pair(int k) {
        int b = 1;
        while (k >= b) {
            k -= b;
            b++;
        }
        return new int[] {k, b};
    }

    private static int[][] copyOf(int[][] sets) {
        int[][] copy = new int[sets.length][];
        for (int i = 0; i < sets.length; i++) {
            copy[i] = sets[i].clone();
        }
        return copy;
    }

    /** A search for so many tellings; end: 1 so many are found, 2 ended, 3 spent. */
    private static Trace search(int[][] sets, int wanted) {
        Trace trace = new Trace();
        trace.pairs = sets.length * (sets.length - 1) / 2;
        trace.wanted = wanted;
        trace.end = 2;
        if (!shrunk(sets)) {
            return trace;
        }
        try {
            deepen(sets, 0, trace);
            if (!trace.depths.isEmpty()) {
                trace.depths.set(trace.depths.size() - 1, 0);
            }
        } catch (RuntimeException stop) {
            if (stop != STOP) {
                throw stop;
            }
        }
        return trace;
    }

    private static void deepen(int[][] sets, int k, Trace trace) {
        if (k == trace.pairs) {
            trace.tellings.add(sets);
            if (trace.tellings.size() == trace.wanted) {
                trace.end = 1;
                throw STOP;
            }
            return;
        }
        int a = pair(k)[0];
        int b = pair(k)[1];
        for (int way = 0; way < 8; way++) {
            if ((sets[a][b] & 1 << way) != 0) {
                int sofar = trace.depths.size();
                if (sofar > 0) {
                    trace.depths.set(sofar - 1, k);
                }
                if (sofar == MOST_CHOICES) {
                    trace.end = 3;
                    throw STOP;
                }
                int[][] copy = copyOf(sets);
                only(copy, a, b, 1 << way);
                boolean fine = shrunk(copy);
                int blinds = trace.blind();
                trace.blinds.add(blinds + (fine ? 0 : 1));
                trace.depths.add(k + 1);
                if (fine) {
                    deepen(copy, k + 1, trace);
                }
            }
        }
    }

    private boolean hasRing(List<Integer> deeds) {
        for (int order = 0; order < 3; order++) {
            if (shortest(order, deeds) != NONE) {
                return true;
            }
        }
        return false;
    }

    private int canBe(int year, List<Integer> deeds) {
        if (hasRing(deeds)) {
            return 0;
        }
        int end = search(sets(year, deeds), 1).end;
        return end == 3 ? STATE : end == 1 ? 1 : 0;
    }

    int can(int year) {
        if (!within(year, 0, 999)) {
            return no(BAD);
        }
        int answer = canBe(year, asOf(year));
        return answer == STATE ? no(STATE) : answer;
    }

    int choose(int year) {
        if (!within(year, 0, 999)) {
            return no(BAD);
        }
        Trace trace = search(sets(year, asOf(year)), 1);
        return trace.end == 3 ? no(STATE) : trace.blinds.size();
    }

    int blind(int year) {
        if (!within(year, 0, 999)) {
            return no(BAD);
        }
        Trace trace = search(sets(year, asOf(year)), 1);
        return trace.end == 3 ? no(STATE) : trace.blind();
    }

    private static int wayIn(int set) {
        int way = 0;
        while (1 << way != set) {
            way++;
        }
        return way;
    }

    int told(int a, int b, int year) {
        if (!areTwo(a, b) || !within(year, 0, 999)) {
            return no(BAD);
        }
        Trace trace = search(sets(year, asOf(year)), 1);
        if (trace.end == 3) {
            return no(STATE);
        }
        return trace.end == 2 ? NONE : wayIn(trace.tellings.get(0)[a][b]);
    }

    int many(int year, int most) {
        if (!within(year, 0, 999) || !within(most, 1, 500)) {
            return no(BAD);
        }
        Trace trace = search(sets(year, asOf(year)), most);
        return trace.end == 3 ? no(STATE) : trace.tellings.size();
    }

    private int mays(int a, int b, int year) {
        int found = 0;
        for (int way = 0; way < 8; way++) {
            int[][] sets = sets(year, asOf(year));
            if ((sets[a][b] & 1 << way) != 0) {
                only(sets, a, b, 1 << way);
                int end = search(sets, 1).end;
                if (end == 3) {
                    return STATE;
                }
                found += end == 1 ? 1 << way : 0;
            }
        }
        return found;
    }

    int may(int a, int b, int year) {
        if (!areTwo(a, b) || !within(year, 0, 999)) {
            return no(BAD);
        }
        int found = mays(a, b, year);
        return found == STATE ? no(STATE) : found;
    }

    int must(int a, int b, int year) {
        int found = may(a, b, year);
        if (found < 0) {
            return found;
        }
        return Integer.bitCount(found) == 1 ? wayIn(found) : NONE;
    }

    // quarrels: {quarrel, size, sum, doubted, rivals}, or null

    private int[] quarrels(int year) {
        List<Integer> deeds = asOf(year);
        if (deeds.size() > 8) {
            return null;
        }
        int all = (1 << deeds.size()) - 1;
        boolean[] fine = new boolean[all + 1];
        for (int set = all; set >= 0; set--) {
            for (int more = set + 1; more <= all; more++) {
                if ((more & set) == set && fine[more]) {
                    fine[set] = true;
                }
            }
            if (!fine[set]) {
                int can = canBe(year, among(deeds, set));
                if (can == STATE) {
                    return null;
                }
                fine[set] = can == 1;
            }
        }
        int[] answer = {0, 0, NONE, 0, 0};
        for (int size = 8; size >= 0; size--) {
            for (int set = all; set >= 0; set--) {
                if (Integer.bitCount(set) == size && !fine[set]) {
                    answer[0] = bits(among(deeds, set));
                    answer[1] = size;
                }
            }
        }
        for (int sum = 99 * 8; sum >= 0; sum--) {
            int rivals = 0;
            int least = 0;
            for (int set = all; set >= 0; set--) {
                int weights = 0;
                for (int d : among(deeds, set)) {
                    weights += w.deeds.get(d).weight;
                }
                if (weights == sum && fine[all - set]) {
                    rivals++;
                    least = bits(among(deeds, set));
                }
            }
            if (rivals > 0) {
                answer[2] = sum;
                answer[3] = least;
                answer[4] = rivals;
            }
        }
        return answer;
    }

    private static List<Integer> among(List<Integer> deeds, int set) {
        List<Integer> some = new ArrayList<>();
        for (int i = 0; i < deeds.size(); i++) {
            if ((set & 1 << i) != 0) {
                some.add(deeds.get(i));
            }
        }
        return some;
    }

    private static int bits(List<Integer> numbers) {
        int set = 0;
        for (int number : numbers) {
            set |= 1 << number;
        }
        return set;
    }

    private int ofQuarrels(int year, int what) {
        if (!within(year, 0, 999)) {
            return no(BAD);
        }
        int[] answer = quarrels(year);
        return answer == null ? no(STATE) : answer[what];
    }

    int quarrel(int year) {
        return ofQuarrels(year, 0);
    }

    int small(int year) {
        return ofQuarrels(year, 1);
    }

    int doubt(int year) {
        return ofQuarrels(year, 2);
    }

    int drops(int year) {
        return ofQuarrels(year, 3);
    }

    int rival(int year) {
        return ofQuarrels(year, 4);
    }

    int word(int word, int year) {
        if (!within(word, 0, 3) || !within(year, 0, 999)) {
            return no(BAD);
        }
        int meant = w.means[word];
        int best = NONE;
        int least = Integer.MAX_VALUE;
        for (int way = 0; way < 8; way++) {
            w.means[word] = way;
            int[] answer = quarrels(year);
            w.means[word] = meant;
            if (answer == null) {
                return no(STATE);
            }
            if (answer[2] < least) {
                least = answer[2];
                best = way;
            }
        }
        return best;
    }

    private int[] settles(int year) {
        int n = w.fields.size();
        if (!within(n, 2, 4)) {
            return null;
        }
        Trace trace = search(sets(year, asOf(year)), Integer.MAX_VALUE);
        if (trace.end == 3) {
            return null;
        }
        int[] best = {NONE, Integer.MAX_VALUE};
        for (int k = 0; k < n * (n - 1) / 2; k++) {
            int a = pair(k)[0];
            int b = pair(k)[1];
            int[] counts = new int[8];
            for (int[][] telling : trace.tellings) {
                counts[wayIn(telling[a][b])]++;
            }
            Arrays.sort(counts);
            if (counts[7] < best[1]) {
                best = new int[] {100 * a + b, counts[7]};
            }
        }
        return trace.tellings.isEmpty() ? new int[] {NONE, 0} : best;
    }

    int settle(int year) {
        if (!within(year, 0, 999)) {
            return no(BAD);
        }
        int[] answer = settles(year);
        return answer == null ? no(STATE) : answer[0];
    }

    int left(int year) {
        if (!within(year, 0, 999)) {
            return no(BAD);
        }
        int[] answer = settles(year);
        return answer == null ? no(STATE) : answer[1];
    }

    // orders

    private int shortest(int order, List<Integer> deeds) {
        int n = w.fields.size();
        int far = 1000;
        int[][] steps = new int[n][n];
        for (int[] row : steps) {
            Arrays.fill(row, far);
        }
        for (int d : deeds) {
            if (w.deeds.get(d).order == order) {
                steps[w.deeds.get(d).first][w.deeds.get(d).second] = 1;
            }
        }
        for (int k = 0; k < n; k++) {
            for (int i = 0; i < n; i++) {
                for (int j = 0; j < n; j++) {
                    steps[i][j] = Math.min(steps[i][j], steps[i][k] + steps[k][j]);
                }
            }
        }
        int least = far;
        for (int i = 0; i < n; i++) {
            least = Math.min(least, steps[i][i]);
        }
        return least >= far ? NONE : least;
    }

    int ring(int order, int year) {
        return within(order, 0, 2) && within(year, 0, 999) ? shortest(order, asOf(year)) : no(BAD);
    }

    int rank(int order, int field, int year) {
        if (!within(order, 0, 2) || !isField(field) || !within(year, 0, 999)) {
            return no(BAD);
        }
        return shortest(order, asOf(year)) == NONE ? rankOf(order, field, asOf(year)) : no(STATE);
    }

    private int rankOf(int order, int field, List<Integer> deeds) {
        int rank = 0;
        for (int d : deeds) {
            D deed = w.deeds.get(d);
            if (deed.order == order && deed.first == field) {
                rank = Math.max(rank, 1 + rankOf(order, deed.second, deeds));
            }
        }
        return rank;
    }

    // cells

    private static TreeSet<Integer> up(int[][] told, int x) {
        TreeSet<Integer> up = new TreeSet<>(List.of(x));
        for (int y = 0; y < told.length; y++) {
            if (y != x && (told[x][y] == 1 << 3 || told[x][y] == 1 << 4 || told[x][y] == 1 << 7)) {
                up.add(y);
            }
        }
        return up;
    }

    private static TreeSet<Integer> beyond(int[][] told, TreeSet<Integer> set) {
        TreeSet<Integer> beyond = new TreeSet<>();
        for (int x : set) {
            for (int y = 0; y < told.length; y++) {
                if (y != x && told[x][y] == 1 << 4) {
                    beyond.add(y);
                }
            }
        }
        return beyond;
    }

    private static TreeSet<Integer> both(TreeSet<Integer> a, TreeSet<Integer> b) {
        TreeSet<Integer> both = new TreeSet<>(a);
        both.addAll(b);
        return both;
    }

    int lay(int year) {
        if (!within(year, 0, 999)) {
            return no(BAD);
        }
        Trace trace = search(sets(year, asOf(year)), 1);
        if (trace.end == 3) {
            return no(STATE);
        }
        if (trace.end == 2) {
            return NONE;
        }
        int[][] told = trace.tellings.get(0);
        w.cells = new ArrayList<>();
        w.mates = new ArrayList<>();
        for (int x = 0; x < told.length; x++) {
            w.cells.add(up(told, x));
            w.mates.add(NONE);
        }
        for (int k = 0; k < trace.pairs; k++) {
            TreeSet<Integer> upX = up(told, pair(k)[0]);
            TreeSet<Integer> upY = up(told, pair(k)[1]);
            int way = wayIn(told[pair(k)[0]][pair(k)[1]]);
            if (way == 2) {
                w.cells.add(both(upX, upY));
                w.mates.add(NONE);
            } else if (way == 1) {
                mates(both(upX, beyond(told, upY)), both(upY, beyond(told, upX)));
            } else if (way == 3) {
                mates(upX, beyond(told, upX));
            } else if (way == 5) {
                mates(upY, beyond(told, upY));
            }
        }
        return w.cells.size();
    }

    private void mates(TreeSet<Integer> one, TreeSet<Integer> other) {
        w.cells.add(one);
        w.mates.add(w.cells.size());
        w.cells.add(other);
        w.mates.add(w.cells.size() - 2);
    }

    int cell(int cell, int field) {
        if (!within(cell, 0, w.cells.size() - 1) || !isField(field)) {
            return no(BAD);
        }
        return w.cells.get(cell).contains(field) ? 1 : 0;
    }

    int mate(int cell) {
        return within(cell, 0, w.cells.size() - 1) ? w.mates.get(cell) : no(BAD);
    }

    private interface Next {
        boolean areNext(int c, int d);
    }

    private static int way(TreeSet<Integer> a, TreeSet<Integer> b, Next next) {
        if (a.isEmpty() || b.isEmpty()) {
            return NONE;
        }
        if (a.equals(b)) {
            return 7;
        }
        TreeSet<Integer> shared = new TreeSet<>(a);
        shared.retainAll(b);
        if (shared.isEmpty()) {
            for (int c : a) {
                for (int d : b) {
                    if (next.areNext(c, d)) {
                        return 1;
                    }
                }
            }
            return 0;
        }
        if (shared.equals(a)) {
            for (int c : a) {
                for (int d = 0; d < 200; d++) {
                    if (next.areNext(c, d) && !b.contains(d)) {
                        return 3;
                    }
                }
            }
            return 4;
        }
        return shared.equals(b) ? TURN[way(b, a, next)] : 2;
    }

    int laid(int a, int b) {
        if (!areTwo(a, b)) {
            return no(BAD);
        }
        TreeSet<Integer> cellsOfA = new TreeSet<>();
        TreeSet<Integer> cellsOfB = new TreeSet<>();
        for (int c = 0; c < w.cells.size(); c++) {
            if (w.cells.get(c).contains(a)) {
                cellsOfA.add(c);
            }
            if (w.cells.get(c).contains(b)) {
                cellsOfB.add(c);
            }
        }
        return way(cellsOfA, cellsOfB, (c, d) -> w.mates.get(c) == d);
    }

    // grounds

    private static boolean isRim(int c) {
        return c / 8 == 0 || c / 8 == 7 || c % 8 == 0 || c % 8 == 7;
    }

    private static boolean areNextOnBoard(int c, int d) {
        return c < 64 && d < 64 && Math.abs(c / 8 - d / 8) + Math.abs(c % 8 - d % 8) == 1;
    }

    int ground(int field, int s) {
        if (!isField(field) || !within(s, 0, 7)) {
            return no(BAD);
        }
        if (shelfKind[s] == 2) {
            return no(OTHER);
        }
        if (shelfKind[s] == 0) {
            return no(NOTHING);
        }
        F f = w.fields.get(field);
        f.ground.clear();
        for (int i = 0; i < shelfRow[s].length; i++) {
            if (shelfRow[s][i] != 0) {
                f.ground.add(i);
            }
        }
        return f.ground.size();
    }

    long groundOf(int field) {
        long bits = 0;
        if (isField(field)) {
            for (int c : w.fields.get(field).ground) {
                bits |= 1L << c;
            }
        }
        return bits;
    }

    int lies(int a, int b) {
        if (!areTwo(a, b)) {
            return no(BAD);
        }
        return way(w.fields.get(a).ground, w.fields.get(b).ground, PlainCourt::areNextOnBoard);
    }

    int judge(int year) {
        if (!within(year, 0, 999)) {
            return no(BAD);
        }
        for (int d : asOf(year)) {
            if (!isSo(w.deeds.get(d))) {
                return d;
            }
        }
        return NONE;
    }

    private boolean isSo(D d) {
        TreeSet<Integer> a = w.fields.get(d.first).ground;
        TreeSet<Integer> b = w.fields.get(d.second).ground;
        if (a.isEmpty() || b.isEmpty()) {
            return false;
        }
        if (d.order == 0) {
            return a.last() / 8 < b.first() / 8;
        }
        if (d.order == 1) {
            int eastOfA = 0;
            int eastOfB = 0;
            for (int c : a) {
                eastOfA = Math.max(eastOfA, c % 8);
            }
            for (int c : b) {
                eastOfB = Math.max(eastOfB, c % 8);
            }
            return eastOfA > eastOfB;
        }
        if (d.order == 2) {
            return a.size() > b.size();
        }
        return (lets(d) & 1 << way(a, b, PlainCourt::areNextOnBoard)) != 0;
    }

    /** All cells of an area to which one comes from some of it. */
    private static TreeSet<Integer> reached(TreeSet<Integer> from, TreeSet<Integer> area) {
        TreeSet<Integer> reached = new TreeSet<>(from);
        List<Integer> todo = new ArrayList<>(from);
        while (!todo.isEmpty()) {
            int c = todo.remove(0);
            for (int d : area) {
                if (areNextOnBoard(c, d) && reached.add(d)) {
                    todo.add(d);
                }
            }
        }
        return reached;
    }

    int right(int field) {
        if (!isField(field)) {
            return no(BAD);
        }
        F f = w.fields.get(field);
        if (f.ground.isEmpty()) {
            return 0;
        }
        if (f.kind == 4) {
            return isWhole(f.ground, List.of(f.part, f.part + 1)) ? 1 : 0;
        }
        boolean right = f.kind < 1 || reached(new TreeSet<>(List.of(f.ground.first())), f.ground).equals(f.ground);
        if (f.kind >= 2) {
            TreeSet<Integer> others = new TreeSet<>();
            TreeSet<Integer> rim = new TreeSet<>();
            for (int c = 0; c < 64; c++) {
                if (!f.ground.contains(c)) {
                    others.add(c);
                    if (isRim(c)) {
                        rim.add(c);
                    }
                }
            }
            right &= reached(rim, others).equals(others);
        }
        if (f.kind == 3) {
            TreeSet<Integer> columns = new TreeSet<>();
            for (int c : f.ground) {
                columns.add(c % 8);
            }
            int rows = f.ground.last() / 8 - f.ground.first() / 8 + 1;
            right &= f.ground.size() == rows * (columns.last() - columns.first() + 1);
        }
        return right ? 1 : 0;
    }

    private boolean isWhole(TreeSet<Integer> ground, List<Integer> parts) {
        TreeSet<Integer> together = new TreeSet<>();
        int sum = 0;
        for (int p : parts) {
            together.addAll(w.fields.get(p).ground);
            sum += w.fields.get(p).ground.size();
        }
        return together.equals(ground) && sum == together.size();
    }

    int whole(int field, int set) {
        if (!isField(field) || set == 0) {
            return no(BAD);
        }
        List<Integer> parts = new ArrayList<>();
        for (int f = 0; f < 32; f++) {
            if ((set & 1 << f) != 0) {
                if (!isField(f)) {
                    return no(BAD);
                }
                parts.add(f);
            }
        }
        return isWhole(w.fields.get(field).ground, parts) ? 1 : 0;
    }

    // drawn lands

    private int below(int n) {
        w.seed = w.seed * 1103515245 + 12345;
        return (w.seed >>> 16) % n;
    }

    private TreeSet<Integer> box() {
        int row = below(6);
        int column = below(6);
        int rows = below(3);
        int columns = below(3);
        TreeSet<Integer> cells = new TreeSet<>();
        for (int r = row; r <= row + rows && r < 8; r++) {
            for (int c = column; c <= column + columns && c < 8; c++) {
                cells.add(r * 8 + c);
            }
        }
        return cells;
    }

    int draw(int n) {
        if (!within(n, 1, 100)) {
            return no(BAD);
        }
        for (int i = 0; i < n; i++) {
            TreeSet<Integer> a = box();
            TreeSet<Integer> b = box();
            TreeSet<Integer> c = box();
            int first = way(a, b, PlainCourt::areNextOnBoard);
            int second = way(b, c, PlainCourt::areNextOnBoard);
            w.found[first][second] |= 1 << way(a, c, PlainCourt::areNextOnBoard);
        }
        int count = 0;
        for (int[] row : w.found) {
            for (int set : row) {
                count += Integer.bitCount(set);
            }
        }
        return count;
    }

    int found(int way, int other) {
        return within(way, 0, 7) && within(other, 0, 7) ? w.found[way][other] : no(BAD);
    }

    int seed(int v) {
        int ahead = w.seed;
        w.seed = v;
        return ahead;
    }

    // a search under way: it was made to its end by begin(); made is how far one has come

    int begin(int year) {
        if (!within(year, 0, 999)) {
            return no(BAD);
        }
        w.trace = search(sets(year, asOf(year)), 1);
        w.trace.year = year;
        w.made = 0;
        return w.trace.pairs;
    }

    int step(int n) {
        if (!within(n, 1, 999)) {
            return no(BAD);
        }
        if (w.trace == null || w.made == w.trace.depths.size()) {
            return no(STATE);
        }
        int now = Math.min(n, w.trace.depths.size() - w.made);
        w.made += now;
        return now;
    }

    int search(int what) {
        if (!within(what, 0, 4)) {
            return no(BAD);
        }
        if (w.trace == null) {
            return no(STATE);
        }
        boolean isOver = w.made == w.trace.depths.size();
        int blinds = w.made == 0 ? 0 : w.trace.blinds.get(w.made - 1);
        int depth = w.made == 0 ? 0 : w.trace.depths.get(w.made - 1);
        return List.of(w.trace.year, w.made, blinds, isOver ? w.trace.end : 0, depth).get(what);
    }

    // keeping

    int image() {
        kept = w.copy();
        return 1;
    }

    int back() {
        if (kept == null) {
            return no(STATE);
        }
        w = kept.copy();
        for (int s = 0; s < 8; s++) {
            if (shelfKind[s] == 2 && !isField(shelfField[s])) {
                shelfKind[s] = 0;
            }
        }
        return 1;
    }

    int status(int what) {
        int held = 0;
        for (int kind : shelfKind) {
            held += kind == 0 ? 0 : 1;
        }
        if (within(what, 12, 16)) {
            return refused[what - 10];
        }
        return within(what, 0, 4)
            ? List.of(w.fields.size(), w.deeds.size(), tape.length(), w.seed, held).get(what) : NONE;
    }
}
