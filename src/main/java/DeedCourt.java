/**
 * A land of which there are only deeds: what they let, whether all of them can be true at once, and which to doubt.
 * Nothing is made behind the constructor: every call works in rows that the constructor made.
 */
public final class DeedCourt {
    public static final int NONE = -1;

    // The refusals.
    private static final int BAD = -2;
    private static final int OTHER = -3;
    private static final int NOTHING = -4;
    private static final int STATE = -5;
    private static final int FULL = -6;

    private static final int SHELVES = 8;
    private static final int CELLS = 64;
    private static final int MOST_FIELDS = 10;
    private static final int MOST_PAIRS = 45;
    private static final int MOST_DEEDS = 24;
    private static final int MOST_YEAR = 999;
    private static final int MOST_WEIGHT = 99;
    private static final int OLD_WORDS = 4;
    private static final int TAPE_SIZE = 80;

    // The kinds of fields.
    private static final int FIELD = 0;
    private static final int PIECE = 1;
    private static final int DISC = 2;
    private static final int BOX = 3;
    private static final int GONE = 4;

    // The ways; as bits, all of them and those that the terms name together.
    private static final int WAYS = 8;
    private static final int APART = 0;
    private static final int TOUCH = 1;
    private static final int OVER = 2;
    private static final int EDGE = 3;
    private static final int INSIDE = 4;
    private static final int ROUND = 5;
    private static final int HOLDS = 6;
    private static final int SAME = 7;
    private static final int ALL_WAYS = 255;
    private static final int WITHIN = 1 << EDGE | 1 << INSIDE;
    private static final int SHARE_NONE = 1 << APART | 1 << TOUCH;

    // The orders.
    private static final int ORDERS = 3;
    private static final int NORTH = 0;
    private static final int EAST = 1;
    private static final int LARGER = 2;

    private final Shelf[] shelves;
    private final Tape tape;
    private final Land land;
    private final Land kept;
    private boolean isKept;
    private final int[] refusals;
    private final Ways rules;
    private final Search probe;
    private final Quarrels quarrels;
    private final int[] tally;

    public DeedCourt() {
        shelves = new Shelf[SHELVES];
        for (int s = 0; s < SHELVES; s++) {
            shelves[s] = new Shelf();
        }
        tape = new Tape();
        rules = new Ways();
        land = new Land(rules);
        kept = new Land(rules);
        isKept = false;
        refusals = new int[5];
        probe = new Search(rules);
        quarrels = new Quarrels();
        tally = new int[6 * WAYS];
    }

    // ---- shelves

    public int row(int s, int sort, int n) {
        if (!isShelf(s) || sort < 0 || sort > 4 || n < 0 || n > CELLS) {
            return refuse(BAD);
        }
        shelves[s].holdRow(sort, n);
        return 1;
    }

    public int set(int s, int i, long v) {
        if (!isShelf(s)) {
            return refuse(BAD);
        }
        Shelf shelf = shelves[s];
        if (shelf.hasField()) {
            return refuse(OTHER);
        }
        if (!shelf.hasRow()) {
            return refuse(NOTHING);
        }
        if (i < 0 || i >= shelf.size) {
            return refuse(BAD);
        }
        shelf.put(i, v);
        return 1;
    }

    public int copy(int p, int q, int i, int j, int n) {
        if (!isShelf(p) || !isShelf(q)) {
            return refuse(BAD);
        }
        Shelf from = shelves[p];
        Shelf to = shelves[q];
        if (from.hasField() || to.hasField()) {
            return refuse(OTHER);
        }
        if (from.hasRow() && to.hasRow() && from.sort != to.sort) {
            return refuse(OTHER);
        }
        if (!from.hasRow() || !to.hasRow()) {
            return refuse(NOTHING);
        }
        if (!from.hasPart(i, n) || !to.hasPart(j, n)) {
            return refuse(BAD);
        }
        System.arraycopy(from.elements, i, to.elements, j, n);
        return n;
    }

    public long element(int s, int i) {
        if (!isShelf(s)) {
            return 0;
        }
        Shelf shelf = shelves[s];
        return shelf.hasRow() && i >= 0 && i < shelf.size ? shelf.elements[i] : 0;
    }

    public int holds(int s) {
        if (!isShelf(s)) {
            return NONE;
        }
        Shelf shelf = shelves[s];
        return shelf.hasField() ? 10 + shelf.shown : shelf.sort;
    }

    public int show(int s, int field) {
        if (!isShelf(s) || (field != NONE && !land.hasField(field))) {
            return refuse(BAD);
        }
        shelves[s].holdField(field);
        return 1;
    }

    public int says(int s, int kind) {
        if (!isShelf(s) || kind < FIELD || kind > GONE) {
            return refuse(BAD);
        }
        Shelf shelf = shelves[s];
        if (shelf.hasRow()) {
            return refuse(OTHER);
        }
        if (!land.hasField(shelf.shown)) {
            return refuse(NOTHING);
        }
        Field field = land.fields[shelf.shown];
        if (!field.isOf(kind)) {
            return refuse(OTHER);
        }
        return kind == FIELD ? shelf.shown : field.tells(kind);
    }

    // ---- fields

    public int field(int kind, int year) {
        if (kind < FIELD || kind > BOX || !isYear(year)) {
            return refuse(BAD);
        }
        if (land.fieldCount >= MOST_FIELDS) {
            return refuse(FULL);
        }
        return land.addField(kind, year);
    }

    public int fieldOf(int field, int what) {
        if (!land.hasField(field)) {
            return refuse(BAD);
        }
        Field f = land.fields[field];
        switch (what) {
            case 0:
                return f.kind;
            case 1:
                return f.from;
            case 2:
                return f.parted;
            case 3:
                return f.firstPart;
            default:
                return refuse(BAD);
        }
    }

    public int part(int field, int year) {
        if (!land.hasField(field) || !isYear(year)) {
            return refuse(BAD);
        }
        Field f = land.fields[field];
        if (year < f.from) {
            return refuse(BAD);
        }
        if (f.kind == GONE) {
            return refuse(STATE);
        }
        if (land.fieldCount + 2 > MOST_FIELDS) {
            return refuse(FULL);
        }
        int first = land.addField(f.kind, year);
        land.addField(f.kind, year);
        f.kind = GONE;
        f.parted = year;
        f.firstPart = first;
        return first;
    }

    // ---- the tape, and deeds

    public int feed(int v, int n) {
        if (n < 1 || n > 4) {
            return refuse(BAD);
        }
        if (tape.size + n > TAPE_SIZE) {
            return refuse(FULL);
        }
        for (int i = n - 1; i >= 0; i--) {
            tape.add(v >> 8 * i);
        }
        return tape.size;
    }

    public int wipe() {
        int ahead = tape.size;
        tape.size = 0;
        return ahead;
    }

    public int deed() {
        int number = land.deedCount;
        if (number >= MOST_DEEDS) {
            return refuse(FULL);
        }
        int fault = tape.read(land.deeds[number], land.fieldCount);
        tape.size = 0;
        if (fault != NONE) {
            refuse(BAD);
            return -20 - fault;
        }
        land.deedCount++;
        return number;
    }

    public int deedOf(int deed, int what) {
        if (!land.hasDeed(deed)) {
            return refuse(BAD);
        }
        Deed d = land.deeds[deed];
        switch (what) {
            case 0:
                return d.first;
            case 1:
                return d.second;
            case 2:
                return d.year;
            case 3:
                return d.weight;
            case 4:
                return d.order;
            case 5:
                return d.lets(land.means);
            case 6:
                return d.dropped ? 1 : 0;
            default:
                return refuse(BAD);
        }
    }

    public int drop(int deed, boolean drops) {
        if (!land.hasDeed(deed)) {
            return refuse(BAD);
        }
        Deed d = land.deeds[deed];
        int ahead = d.dropped ? 1 : 0;
        d.dropped = drops;
        return ahead;
    }

    public int weigh(int deed, int v) {
        if (!land.hasDeed(deed) || v < 1 || v > MOST_WEIGHT) {
            return refuse(BAD);
        }
        Deed d = land.deeds[deed];
        int ahead = d.weight;
        d.weight = v;
        return ahead;
    }

    public int mean(int word, int way) {
        if (word < 0 || word >= OLD_WORDS || (way != NONE && !isWay(way))) {
            return refuse(BAD);
        }
        int ahead = land.means[word];
        land.means[word] = way;
        return ahead;
    }

    // ---- ways

    public int turned(int set) {
        return isSet(set) ? rules.turns[set] : refuse(BAD);
    }

    public int three(int way, int other) {
        return isWay(way) && isWay(other) ? Ways.THREE[way * WAYS + other] : refuse(BAD);
    }

    public int follow(int set, int other) {
        return isSet(set) && isSet(other) ? rules.ofTwo(set, other) : refuse(BAD);
    }

    public int ways(int a, int b, int year) {
        if (!areTwo(a, b) || !isYear(year)) {
            return refuse(BAD);
        }
        land.fill(probe.sets, year, land.asOf(year));
        return probe.sets.at[a * MOST_FIELDS + b];
    }

    public int shrink(int year) {
        if (!isYear(year)) {
            return refuse(BAD);
        }
        Sets sets = probe.sets;
        land.fill(sets, year, land.asOf(year));
        int pairs = sets.pairs();
        for (int k = 0; k < pairs; k++) {
            tally[k] = sets.at[Sets.PAIRS[k]];
        }
        if (!sets.shrinkAll()) {
            return NONE;
        }
        int fewer = 0;
        for (int k = 0; k < pairs; k++) {
            if (sets.at[Sets.PAIRS[k]] != tally[k]) {
                fewer++;
            }
        }
        return fewer;
    }

    public int known(int a, int b, int year) {
        if (!areTwo(a, b) || !isYear(year)) {
            return refuse(BAD);
        }
        Sets sets = probe.sets;
        land.fill(sets, year, land.asOf(year));
        return sets.shrinkAll() ? sets.at[a * MOST_FIELDS + b] : 0;
    }

    // ---- tellings

    public int can(int year) {
        if (!isYear(year)) {
            return refuse(BAD);
        }
        int answer = land.canBe(probe, year, land.asOf(year));
        return answer == STATE ? refuse(STATE) : answer;
    }

    public int choose(int year) {
        if (!isYear(year)) {
            return refuse(BAD);
        }
        return searched(year) == Search.SPENT ? refuse(STATE) : probe.choices;
    }

    public int blind(int year) {
        if (!isYear(year)) {
            return refuse(BAD);
        }
        return searched(year) == Search.SPENT ? refuse(STATE) : probe.blinds;
    }

    public int told(int a, int b, int year) {
        if (!areTwo(a, b) || !isYear(year)) {
            return refuse(BAD);
        }
        int end = searched(year);
        if (end == Search.SPENT) {
            return refuse(STATE);
        }
        return end == Search.FOUND ? Ways.only(probe.sets.at[a * MOST_FIELDS + b]) : NONE;
    }

    public int many(int year, int most) {
        if (!isYear(year) || most < 1 || most > 500) {
            return refuse(BAD);
        }
        int count = 0;
        int end = searched(year);
        while (end == Search.FOUND && count < most) {
            count++;
            end = count < most ? probe.runBehind() : end;
        }
        return end == Search.SPENT ? refuse(STATE) : count;
    }

    public int may(int a, int b, int year) {
        if (!areTwo(a, b) || !isYear(year)) {
            return refuse(BAD);
        }
        int set = possible(a, b, year);
        return set == STATE ? refuse(STATE) : set;
    }

    public int must(int a, int b, int year) {
        if (!areTwo(a, b) || !isYear(year)) {
            return refuse(BAD);
        }
        int set = possible(a, b, year);
        return set == STATE ? refuse(STATE) : Ways.only(set);
    }

    // ---- deeds that quarrel

    public int quarrel(int year) {
        if (!isYear(year)) {
            return refuse(BAD);
        }
        return quarrels.examine(land, probe, year) ? quarrels.quarrel : refuse(STATE);
    }

    public int small(int year) {
        if (!isYear(year)) {
            return refuse(BAD);
        }
        return quarrels.examine(land, probe, year) ? Integer.bitCount(quarrels.quarrel) : refuse(STATE);
    }

    public int doubt(int year) {
        if (!isYear(year)) {
            return refuse(BAD);
        }
        return quarrels.examine(land, probe, year) ? quarrels.leastSum : refuse(STATE);
    }

    public int drops(int year) {
        if (!isYear(year)) {
            return refuse(BAD);
        }
        return quarrels.examine(land, probe, year) ? quarrels.doubted : refuse(STATE);
    }

    public int rival(int year) {
        if (!isYear(year)) {
            return refuse(BAD);
        }
        return quarrels.examine(land, probe, year) ? quarrels.rivals : refuse(STATE);
    }

    public int word(int word, int year) {
        if (word < 0 || word >= OLD_WORDS || !isYear(year)) {
            return refuse(BAD);
        }
        int meant = land.means[word];
        boolean fine = true;
        int best = NONE;
        int least = 0;
        for (int way = 0; way < WAYS && fine; way++) {
            land.means[word] = way;
            fine = quarrels.examine(land, probe, year);
            if (fine && (best == NONE || quarrels.leastSum < least)) {
                best = way;
                least = quarrels.leastSum;
            }
        }
        land.means[word] = meant;
        return fine ? best : refuse(STATE);
    }

    public int settle(int year) {
        if (!isYear(year)) {
            return refuse(BAD);
        }
        if (!tallyTellings(year)) {
            return refuse(STATE);
        }
        int pair = bestPair();
        return greatestOf(pair) == 0 ? NONE : 100 * (Sets.PAIRS[pair] / 10) + Sets.PAIRS[pair] % 10;
    }

    public int left(int year) {
        if (!isYear(year)) {
            return refuse(BAD);
        }
        return tallyTellings(year) ? greatestOf(bestPair()) : refuse(STATE);
    }

    // ---- rings of orders

    public int ring(int order, int year) {
        if (!isOrder(order) || !isYear(year)) {
            return refuse(BAD);
        }
        return land.shortestRing(order, land.asOf(year));
    }

    public int rank(int order, int field, int year) {
        if (!isOrder(order) || !land.hasField(field) || !isYear(year)) {
            return refuse(BAD);
        }
        int among = land.asOf(year);
        return land.shortestRing(order, among) != NONE ? refuse(STATE) : land.rankOf(order, field, among);
    }

    // ---- a land laid out in cells

    public int lay(int year) {
        if (!isYear(year)) {
            return refuse(BAD);
        }
        int end = searched(year);
        if (end == Search.SPENT) {
            return refuse(STATE);
        }
        if (end == Search.ENDED) {
            return NONE;
        }
        land.plan.layOut(probe.sets);
        return land.plan.count;
    }

    public int cell(int cell, int field) {
        if (!land.plan.hasCell(cell) || !land.hasField(field)) {
            return refuse(BAD);
        }
        return land.plan.in[cell] >> field & 1;
    }

    public int mate(int cell) {
        return land.plan.hasCell(cell) ? land.plan.mates[cell] : refuse(BAD);
    }

    public int laid(int a, int b) {
        return areTwo(a, b) ? land.plan.wayOf(a, b) : refuse(BAD);
    }

    // ---- grounds

    public int ground(int field, int s) {
        if (!land.hasField(field) || !isShelf(s)) {
            return refuse(BAD);
        }
        Shelf shelf = shelves[s];
        if (shelf.hasField()) {
            return refuse(OTHER);
        }
        if (!shelf.hasRow()) {
            return refuse(NOTHING);
        }
        long ground = shelf.cells();
        land.fields[field].ground = ground;
        return Long.bitCount(ground);
    }

    public long groundOf(int field) {
        return land.hasField(field) ? land.fields[field].ground : 0;
    }

    public int lies(int a, int b) {
        if (!areTwo(a, b)) {
            return refuse(BAD);
        }
        long mine = land.fields[a].ground;
        long other = land.fields[b].ground;
        return mine == 0 || other == 0 ? NONE : Board.wayOf(mine, other);
    }

    public int judge(int year) {
        if (!isYear(year)) {
            return refuse(BAD);
        }
        int among = land.asOf(year);
        for (int d = 0; d < land.deedCount; d++) {
            if ((among >> d & 1) != 0 && !land.isSo(land.deeds[d])) {
                return d;
            }
        }
        return NONE;
    }

    public int right(int field) {
        if (!land.hasField(field)) {
            return refuse(BAD);
        }
        return land.isRight(land.fields[field]) ? 1 : 0;
    }

    public int whole(int field, int set) {
        if (!land.hasField(field) || set == 0 || set >> land.fieldCount != 0) {
            return refuse(BAD);
        }
        return land.isWhole(land.fields[field].ground, set) ? 1 : 0;
    }

    // ---- drawn lands

    public int draw(int n) {
        if (n < 1 || n > 100) {
            return refuse(BAD);
        }
        for (int i = 0; i < n; i++) {
            land.board.drawLand();
        }
        return land.board.foundWays();
    }

    public int found(int way, int other) {
        return isWay(way) && isWay(other) ? land.board.seen[way * WAYS + other] : refuse(BAD);
    }

    public int seed(int v) {
        int ahead = land.board.seedNow;
        land.board.seedNow = v;
        return ahead;
    }

    // ---- a search that is under way

    public int begin(int year) {
        if (!isYear(year)) {
            return refuse(BAD);
        }
        Search search = land.search;
        land.fill(search.sets, year, land.asOf(year));
        search.open(year);
        return search.pairs;
    }

    public int step(int n) {
        if (n < 1 || n > 999) {
            return refuse(BAD);
        }
        Search search = land.search;
        if (search.year == NONE || search.stand != Search.GOES) {
            return refuse(STATE);
        }
        int ahead = search.choices;
        search.run(n);
        return search.choices - ahead;
    }

    public int search(int what) {
        if (what < 0 || what > 4) {
            return refuse(BAD);
        }
        Search search = land.search;
        if (search.year == NONE) {
            return refuse(STATE);
        }
        switch (what) {
            case 0:
                return search.year;
            case 1:
                return search.choices;
            case 2:
                return search.blinds;
            case 3:
                return search.stand;
            default:
                return search.chosen;
        }
    }

    // ---- keeping, and how things stand

    public int image() {
        kept.become(land);
        isKept = true;
        return 1;
    }

    public int back() {
        if (!isKept) {
            return refuse(STATE);
        }
        land.become(kept);
        for (int s = 0; s < SHELVES; s++) {
            if (shelves[s].hasField() && !land.hasField(shelves[s].shown)) {
                shelves[s].holdField(NONE);
            }
        }
        return 1;
    }

    public int status(int what) {
        if (what >= 12 && what <= 16) {
            return refusals[what - 12];
        }
        switch (what) {
            case 0:
                return land.fieldCount;
            case 1:
                return land.deedCount;
            case 2:
                return tape.size;
            case 3:
                return land.board.seedNow;
            case 4:
                return heldShelves();
            default:
                return NONE;
        }
    }

    private int heldShelves() {
        int count = 0;
        for (int s = 0; s < SHELVES; s++) {
            if (shelves[s].hasField() || shelves[s].hasRow()) {
                count++;
            }
        }
        return count;
    }

    // ---- what the calls share

    /** Counts a refusal, and answers its number. */
    private int refuse(int number) {
        int i = BAD - number;
        if (i >= 0 && i < refusals.length) {
            refusals[i]++;
        }
        return number;
    }

    private static boolean isShelf(int s) {
        return s >= 0 && s < SHELVES;
    }

    private static boolean isYear(int year) {
        return year >= 0 && year <= MOST_YEAR;
    }

    private static boolean isWay(int way) {
        return way >= 0 && way < WAYS;
    }

    private static boolean isSet(int set) {
        return set > 0 && set <= ALL_WAYS;
    }

    private static boolean isOrder(int order) {
        return order >= 0 && order < ORDERS;
    }

    private boolean areTwo(int a, int b) {
        return land.hasField(a) && land.hasField(b) && a != b;
    }

    /** Makes the search as of a year from its start: how it stands then. */
    private int searched(int year) {
        land.fill(probe.sets, year, land.asOf(year));
        probe.open(year);
        return probe.run(Search.MOST_CHOICES);
    }

    /** All ways of a to b with which there is a telling; STATE if a search for one is spent. */
    private int possible(int a, int b, int year) {
        int among = land.asOf(year);
        land.fill(probe.sets, year, among);
        int set = probe.sets.at[a * MOST_FIELDS + b];
        int found = 0;
        for (int way = 0; way < WAYS; way++) {
            if ((set >> way & 1) != 0) {
                land.fill(probe.sets, year, among);
                probe.sets.lessen(a, b, 1 << way);
                probe.open(year);
                int end = probe.run(Search.MOST_CHOICES);
                if (end == Search.SPENT) {
                    return STATE;
                }
                found |= end == Search.FOUND ? 1 << way : 0;
            }
        }
        return found;
    }

    /** Counts for each pair and way the tellings that have it; false if that can't be done. */
    private boolean tallyTellings(int year) {
        if (land.fieldCount < 2 || land.fieldCount > 4) {
            return false;
        }
        for (int i = 0; i < tally.length; i++) {
            tally[i] = 0;
        }
        int end = searched(year);
        for (int i = 0; i < Search.MOST_CHOICES && end == Search.FOUND; i++) {
            for (int k = 0; k < probe.pairs; k++) {
                int way = Ways.only(probe.sets.at[Sets.PAIRS[k]]);
                if (way != NONE) {
                    tally[k * WAYS + way]++;
                }
            }
            end = probe.runBehind();
        }
        return end == Search.ENDED;
    }

    /** The pair of which the way that most tellings have leaves the fewest. */
    private int bestPair() {
        int best = 0;
        for (int k = 1; k < probe.pairs; k++) {
            if (greatestOf(k) < greatestOf(best)) {
                best = k;
            }
        }
        return best;
    }

    private int greatestOf(int pair) {
        int greatest = 0;
        for (int way = 0; way < WAYS; way++) {
            greatest = Math.max(greatest, tally[pair * WAYS + way]);
        }
        return greatest;
    }

    /** What a shelf holds: nothing, a row, or a field by its number. */
    private static final class Shelf {
        int sort;
        int size;
        int shown;
        final long[] elements;

        Shelf() {
            sort = NONE;
            size = 0;
            shown = NONE;
            elements = new long[CELLS];
        }

        boolean hasRow() {
            return sort != NONE;
        }

        boolean hasField() {
            return shown != NONE;
        }

        /** Whether n elements from place i on are of the row. */
        boolean hasPart(int i, int n) {
            return i >= 0 && n >= 0 && i <= size && n <= size - i;
        }

        void holdRow(int newSort, int newSize) {
            shown = NONE;
            sort = newSort;
            size = newSize;
            for (int i = 0; i < CELLS; i++) {
                elements[i] = 0;
            }
        }

        void holdField(int field) {
            sort = NONE;
            size = 0;
            shown = field;
        }

        void put(int i, long v) {
            elements[i] = cut(v);
        }

        private long cut(long v) {
            switch (sort) {
                case 0:
                    return (byte) v;
                case 1:
                    return (short) v;
                case 2:
                    return (int) v;
                case 3:
                    return v;
                default:
                    return v != 0 ? 1 : 0;
            }
        }

        /** The cells of which the row has an element that isn't 0. */
        long cells() {
            long cells = 0;
            for (int i = 0; i < size; i++) {
                if (elements[i] != 0) {
                    cells |= 1L << i;
                }
            }
            return cells;
        }
    }

    /** A field; which number it has is its place in the land. */
    private static final class Field {
        int kind;
        int from;
        int parted;
        int firstPart;
        long ground;

        Field() {
            start(FIELD, 0);
        }

        void start(int newKind, int year) {
            kind = newKind;
            from = year;
            parted = NONE;
            firstPart = NONE;
            ground = 0;
        }

        void become(Field other) {
            kind = other.kind;
            from = other.from;
            parted = other.parted;
            firstPart = other.firstPart;
            ground = other.ground;
        }

        /** Whether it is of a kind, or of one under it. */
        boolean isOf(int wanted) {
            if (wanted == FIELD || wanted == kind) {
                return true;
            }
            return kind != GONE && wanted < kind;
        }

        /** What it tells as one of a kind under FIELD. */
        int tells(int asKind) {
            switch (asKind) {
                case PIECE:
                    return Long.bitCount(ground);
                case DISC:
                    return Long.bitCount(ground & Board.RIM);
                case BOX:
                    return ground == 0 ? NONE
                        : 100 * Board.least(Board.rowsOf(ground)) + Board.least(Board.columnsOf(ground));
                default:
                    return firstPart;
            }
        }
    }

    /** A deed as it was read; its weight may become another, and it may be dropped. */
    private static final class Deed {
        int first;
        int second;
        int year;
        int weight;
        int order;
        int said;
        int oldWords;
        boolean isNot;
        boolean dropped;

        Deed() {
            clear();
        }

        void clear() {
            first = NONE;
            second = NONE;
            year = 0;
            weight = 1;
            order = NONE;
            said = 0;
            oldWords = 0;
            isNot = false;
            dropped = false;
        }

        void become(Deed other) {
            first = other.first;
            second = other.second;
            year = other.year;
            weight = other.weight;
            order = other.order;
            said = other.said;
            oldWords = other.oldWords;
            isNot = other.isNot;
            dropped = other.dropped;
        }

        /** The ways that it lets, by what the old words mean now. */
        int lets(int[] means) {
            if (order != NONE) {
                return order == NORTH ? SHARE_NONE : ALL_WAYS & ~(WITHIN | 1 << SAME);
            }
            int let = said;
            for (int w = 0; w < means.length; w++) {
                if ((oldWords >> w & 1) != 0) {
                    if (means[w] == NONE) {
                        return ALL_WAYS;
                    }
                    let |= 1 << means[w];
                }
            }
            return isNot ? ALL_WAYS & ~let : let;
        }
    }

    /** All that image() keeps: fields, deeds, old words, what was laid out and drawn, the search under way. */
    private static final class Land {
        final Field[] fields;
        int fieldCount;
        final Deed[] deeds;
        int deedCount;
        final int[] means;
        final Plan plan;
        final Board board;
        final Search search;
        private final int[] arrows;
        private final int[] ranks;

        Land(Ways rules) {
            fields = new Field[MOST_FIELDS];
            for (int f = 0; f < MOST_FIELDS; f++) {
                fields[f] = new Field();
            }
            fieldCount = 0;
            deeds = new Deed[MOST_DEEDS];
            for (int d = 0; d < MOST_DEEDS; d++) {
                deeds[d] = new Deed();
            }
            deedCount = 0;
            means = new int[OLD_WORDS];
            for (int w = 0; w < OLD_WORDS; w++) {
                means[w] = NONE;
            }
            plan = new Plan();
            board = new Board();
            search = new Search(rules);
            arrows = new int[MOST_FIELDS];
            ranks = new int[MOST_FIELDS];
        }

        void become(Land other) {
            fieldCount = other.fieldCount;
            for (int f = 0; f < fieldCount; f++) {
                fields[f].become(other.fields[f]);
            }
            deedCount = other.deedCount;
            for (int d = 0; d < deedCount; d++) {
                deeds[d].become(other.deeds[d]);
            }
            System.arraycopy(other.means, 0, means, 0, OLD_WORDS);
            plan.become(other.plan);
            board.become(other.board);
            search.become(other.search);
        }

        boolean hasField(int field) {
            return field >= 0 && field < fieldCount;
        }

        boolean hasDeed(int deed) {
            return deed >= 0 && deed < deedCount;
        }

        /** A new field's number; the caller has seen that there is room. */
        int addField(int kind, int year) {
            fields[fieldCount].start(kind, year);
            fieldCount++;
            return fieldCount - 1;
        }

        /** The deeds as of a year, as bits. */
        int asOf(int year) {
            int among = 0;
            for (int d = 0; d < deedCount; d++) {
                if (!deeds[d].dropped && deeds[d].year <= year) {
                    among |= 1 << d;
                }
            }
            return among;
        }

        /** Makes the sets by some of the deeds, and by what was parted as of a year. */
        void fill(Sets sets, int year, int among) {
            sets.open(fieldCount);
            for (int d = 0; d < deedCount; d++) {
                if ((among >> d & 1) != 0) {
                    sets.lessen(deeds[d].first, deeds[d].second, deeds[d].lets(means));
                }
            }
            for (int f = 0; f < fieldCount; f++) {
                if (fields[f].kind == GONE && fields[f].parted <= year) {
                    int part = fields[f].firstPart;
                    sets.lessen(part, f, WITHIN);
                    sets.lessen(part + 1, f, WITHIN);
                    sets.lessen(part, part + 1, SHARE_NONE);
                }
            }
        }

        /** 1 if it can be by some of the deeds, 0 if not, STATE if the search is spent. */
        int canBe(Search probe, int year, int among) {
            for (int order = 0; order < ORDERS; order++) {
                if (shortestRing(order, among) != NONE) {
                    return 0;
                }
            }
            fill(probe.sets, year, among);
            probe.open(year);
            int end = probe.run(Search.MOST_CHOICES);
            if (end == Search.SPENT) {
                return STATE;
            }
            return end == Search.FOUND ? 1 : 0;
        }

        /** How many fields the shortest ring of an order has; NONE. */
        int shortestRing(int order, int among) {
            drawArrows(order, among);
            int shortest = NONE;
            for (int f = 0; f < fieldCount; f++) {
                int length = ringFrom(f);
                if (length != NONE && (shortest == NONE || length < shortest)) {
                    shortest = length;
                }
            }
            return shortest;
        }

        /** The rank of a field, if the order has no ring. */
        int rankOf(int order, int field, int among) {
            drawArrows(order, among);
            for (int f = 0; f < fieldCount; f++) {
                ranks[f] = 0;
            }
            // Without a ring no rank needs more rounds than there are fields.
            for (int round = 0; round < fieldCount; round++) {
                for (int f = 0; f < fieldCount; f++) {
                    for (int g = 0; g < fieldCount; g++) {
                        if ((arrows[f] >> g & 1) != 0) {
                            ranks[f] = Math.max(ranks[f], 1 + ranks[g]);
                        }
                    }
                }
            }
            return ranks[field];
        }

        /** For each field the second ones of the order's deeds of which it is the first. */
        private void drawArrows(int order, int among) {
            for (int f = 0; f < fieldCount; f++) {
                arrows[f] = 0;
            }
            for (int d = 0; d < deedCount; d++) {
                if ((among >> d & 1) != 0 && deeds[d].order == order) {
                    arrows[deeds[d].first] |= 1 << deeds[d].second;
                }
            }
        }

        private int ringFrom(int start) {
            int front = arrows[start];
            for (int length = 1; length <= fieldCount && front != 0; length++) {
                if ((front >> start & 1) != 0) {
                    return length;
                }
                int next = 0;
                for (int f = 0; f < fieldCount; f++) {
                    next |= (front >> f & 1) != 0 ? arrows[f] : 0;
                }
                front = next;
            }
            return NONE;
        }

        /** Whether a deed is so by grounds. */
        boolean isSo(Deed deed) {
            long mine = fields[deed.first].ground;
            long other = fields[deed.second].ground;
            if (mine == 0 || other == 0) {
                return false;
            }
            switch (deed.order) {
                case NORTH:
                    return Board.greatest(Board.rowsOf(mine)) < Board.least(Board.rowsOf(other));
                case EAST:
                    return Board.greatest(Board.columnsOf(mine)) > Board.greatest(Board.columnsOf(other));
                case LARGER:
                    return Long.bitCount(mine) > Long.bitCount(other);
                default:
                    return (deed.lets(means) >> Board.wayOf(mine, other) & 1) != 0;
            }
        }

        /** Whether a field is right by its ground. */
        boolean isRight(Field field) {
            long ground = field.ground;
            if (ground == 0) {
                return false;
            }
            switch (field.kind) {
                case FIELD:
                    return true;
                case PIECE:
                    return Board.isPiece(ground);
                case DISC:
                    return Board.isDisc(ground);
                case BOX:
                    return Board.isDisc(ground) && Board.isBox(ground);
                default:
                    return isWhole(ground, 3 << field.firstPart);
            }
        }

        /** Whether the grounds of a set of fields are together a ground, and no two share a cell. */
        boolean isWhole(long ground, int set) {
            long together = 0;
            boolean shared = false;
            for (int f = 0; f < fieldCount; f++) {
                if ((set >> f & 1) != 0) {
                    shared |= (together & fields[f].ground) != 0;
                    together |= fields[f].ground;
                }
            }
            return !shared && together == ground;
        }
    }

    /** The tape, and how a deed is read from it: token by token; one that can't stand is not gone past. */
    private static final class Tape {
        private static final int END = 0;
        private static final int WORD = 1;
        private static final int NUMBER = 2;
        private static final int STRANGE = 3;
        private static final int TOO_LONG = 1000;

        int size;
        private final byte[] bytes;
        private int token;
        private int start;
        private int end;
        private int number;

        Tape() {
            size = 0;
            bytes = new byte[TAPE_SIZE];
        }

        /** Puts the lowest byte of v behind the tape, if there is room. */
        void add(int v) {
            if (size < TAPE_SIZE) {
                bytes[size] = (byte) v;
                size++;
            }
        }

        /** Reads the tape as a deed: NONE, or the fault. */
        int read(Deed deed, int fieldCount) {
            deed.clear();
            end = 0;
            advance();
            deed.first = take(0, fieldCount - 1);
            boolean fine = deed.first != NONE && readSaid(deed) && readSecond(deed, fieldCount)
                && readYear(deed) && readWeight(deed);
            return fine && token == END ? NONE : start;
        }

        private boolean readSecond(Deed deed, int fieldCount) {
            if (token == NUMBER && number == deed.first) {
                return false;
            }
            deed.second = take(0, fieldCount - 1);
            return deed.second != NONE;
        }

        private boolean readSaid(Deed deed) {
            deed.order = orderHere();
            if (deed.order != NONE) {
                advance();
                return true;
            }
            if (spells("not")) {
                deed.isNot = true;
                advance();
            }
            boolean fine = readOne(deed);
            for (int i = 0; i < TAPE_SIZE && fine && spells("or"); i++) {
                advance();
                fine = readOne(deed);
            }
            return fine;
        }

        private boolean readOne(Deed deed) {
            int said = waysHere();
            if (said != 0) {
                deed.said |= said;
                advance();
                return true;
            }
            if (!spells("old")) {
                return false;
            }
            advance();
            int word = take(0, OLD_WORDS - 1);
            if (word == NONE) {
                return false;
            }
            deed.oldWords |= 1 << word;
            return true;
        }

        private boolean readYear(Deed deed) {
            if (!spells("year")) {
                return true;
            }
            advance();
            deed.year = take(0, MOST_YEAR);
            return deed.year != NONE;
        }

        private boolean readWeight(Deed deed) {
            if (!spells("weight")) {
                return true;
            }
            advance();
            deed.weight = take(1, MOST_WEIGHT);
            return deed.weight != NONE;
        }

        private int orderHere() {
            if (spells("north")) {
                return NORTH;
            }
            if (spells("east")) {
                return EAST;
            }
            return spells("larger") ? LARGER : NONE;
        }

        /** The ways that the word here says, as bits; 0 if it says none. */
        private int waysHere() {
            if (spells("apart")) {
                return 1 << APART;
            }
            if (spells("touch")) {
                return 1 << TOUCH;
            }
            if (spells("over")) {
                return 1 << OVER;
            }
            if (spells("edge")) {
                return 1 << EDGE;
            }
            if (spells("inside")) {
                return 1 << INSIDE;
            }
            if (spells("round")) {
                return 1 << ROUND;
            }
            if (spells("holds")) {
                return 1 << HOLDS;
            }
            if (spells("same")) {
                return 1 << SAME;
            }
            return spells("within") ? WITHIN : 0;
        }

        private boolean spells(String word) {
            if (token != WORD || end - start != word.length()) {
                return false;
            }
            for (int i = 0; i < word.length(); i++) {
                if (byteAt(start + i) != word.charAt(i)) {
                    return false;
                }
            }
            return true;
        }

        /** The number here, gone past, if it is from least to most; NONE. */
        private int take(int least, int most) {
            if (token != NUMBER || number < least || number > most) {
                return NONE;
            }
            int taken = number;
            advance();
            return taken;
        }

        /** Goes on to the next token. */
        private void advance() {
            start = end;
            while (start < size && bytes[start] == ' ') {
                start++;
            }
            end = start;
            if (isLetter(byteAt(start))) {
                token = WORD;
                while (end < size && isLetter(bytes[end])) {
                    end++;
                }
            } else if (isDigit(byteAt(start))) {
                token = NUMBER;
                while (end < size && isDigit(bytes[end])) {
                    end++;
                }
                number = valueHere();
            } else {
                token = start < size ? STRANGE : END;
            }
        }

        private int valueHere() {
            if (end - start > 3) {
                return TOO_LONG;
            }
            int value = 0;
            for (int i = start; i < end; i++) {
                value = value * 10 + bytes[i] - '0';
            }
            return value;
        }

        /** A byte of the tape; NONE behind its end. */
        private int byteAt(int i) {
            return i >= 0 && i < size ? bytes[i] : NONE;
        }

        private static boolean isLetter(int b) {
            return b >= 'a' && b <= 'z';
        }

        private static boolean isDigit(int b) {
            return b >= '0' && b <= '9';
        }
    }

    /** What follows from ways, and sets turned. */
    private static final class Ways {
        /** THREE, by the row's way and the column's. */
        static final int[] THREE = {
            255, 31, 31, 31, 31, 1, 1, 1,
            103, 175, 31, 30, 28, 3, 1, 2,
            103, 103, 255, 28, 28, 103, 103, 4,
            1, 3, 31, 24, 16, 175, 103, 8,
            1, 1, 31, 16, 16, 31, 255, 16,
            103, 102, 100, 172, 28, 96, 64, 32,
            103, 100, 100, 100, 252, 64, 64, 64,
            1, 2, 4, 8, 16, 32, 64, 128};

        final int[] turns;
        /** What follows from half a set and half another, four tables: a search asks for it all the time. */
        private final int[] halves;

        Ways() {
            turns = new int[ALL_WAYS + 1];
            for (int set = 0; set <= ALL_WAYS; set++) {
                int stays = set & ~(WITHIN | WITHIN << 2);
                turns[set] = stays | (set & WITHIN) << 2 | set >> 2 & WITHIN;
            }
            halves = new int[1024];
            for (int i = 0; i < 1024; i++) {
                halves[i] = fromLesser(i);
            }
        }

        /** What follows from the halves that a place tells: by places ahead of it, or of one way each by THREE. */
        private int fromLesser(int place) {
            int half = place & 240;
            int otherHalf = place & 15;
            int way = half & -half;
            int other = otherHalf & -otherHalf;
            if (half == 0 || otherHalf == 0) {
                return 0;
            }
            if (half != way) {
                return halves[place - way] | halves[place - half + way];
            }
            if (otherHalf != other) {
                return halves[place - other] | halves[place - otherHalf + other];
            }
            int row = Integer.bitCount((way >> 4) - 1) + (place >> 9 << 2);
            int column = Integer.bitCount(other - 1) + ((place >> 8 & 1) << 2);
            return THREE[row * WAYS + column];
        }

        /** What follows from two sets (of 8 bits each). */
        int ofTwo(int set, int other) {
            int low = set << 4 & 240;
            int high = set & 240;
            int otherLow = other & 15;
            int otherHigh = other >> 4 & 15;
            return halves[low | otherLow] | halves[256 | low | otherHigh]
                | halves[512 | high | otherLow] | halves[768 | high | otherHigh];
        }

        /** The only way of a set; NONE if it has none, or more. */
        static int only(int set) {
            return Integer.bitCount(set) == 1 ? Integer.bitCount(set - 1) : NONE;
        }
    }

    /** The set of each two fields, how they are shrunk, and how that is taken back. */
    private static final class Sets {
        /** The pairs in their order, each as two digits: the lesser field and the other; so its place, too. */
        static final int[] PAIRS = {
            1, 2, 12, 3, 13, 23, 4, 14, 24, 34, 5, 15, 25, 35, 45,
            6, 16, 26, 36, 46, 56, 7, 17, 27, 37, 47, 57, 67,
            8, 18, 28, 38, 48, 58, 68, 78, 9, 19, 29, 39, 49, 59, 69, 79, 89};
        static final int SIDE = MOST_FIELDS;
        // A pair's set can lose no more than its eight ways, one a time.
        private static final int MOST_CHANGES = MOST_PAIRS * WAYS;

        /** The set of a to b at a * SIDE + b; of b to a it is always this one turned. */
        final int[] at;
        int count;
        int changes;
        private final Ways rules;
        private final int[] changedPlaces;
        private final int[] changedSets;
        /** Pairs of which it isn't yet looked at what follows: each at most once. */
        private final int[] waiting;
        private final boolean[] waits;
        private int firstWaiting;
        private int waitingCount;

        Sets(Ways theRules) {
            rules = theRules;
            at = new int[SIDE * SIDE];
            changedPlaces = new int[MOST_CHANGES];
            changedSets = new int[MOST_CHANGES];
            waiting = new int[MOST_PAIRS];
            waits = new boolean[SIDE * SIDE];
        }

        void become(Sets other) {
            count = other.count;
            changes = other.changes;
            System.arraycopy(other.at, 0, at, 0, at.length);
            System.arraycopy(other.changedPlaces, 0, changedPlaces, 0, changes);
            System.arraycopy(other.changedSets, 0, changedSets, 0, changes);
        }

        /** All ways for each two of so many fields. */
        void open(int fieldCount) {
            count = fieldCount;
            changes = 0;
            firstWaiting = 0;
            waitingCount = 0;
            for (int i = 0; i < at.length; i++) {
                at[i] = ALL_WAYS;
                waits[i] = false;
            }
        }

        int pairs() {
            return count * (count - 1) / 2;
        }

        /** Leaves of a to b only what is let. */
        void lessen(int a, int b, int let) {
            int set = at[a * SIDE + b] & let;
            at[a * SIDE + b] = set;
            at[b * SIDE + a] = rules.turns[set];
        }

        /** Shrinks all sets, for good; false as soon as one is empty. */
        boolean shrinkAll() {
            int pairs = pairs();
            for (int k = 0; k < pairs; k++) {
                if (at[PAIRS[k]] == 0) {
                    return false;
                }
            }
            firstWaiting = 0;
            waitingCount = 0;
            for (int k = 0; k < pairs; k++) {
                // From all ways all follow: a pair that has them needs no look.
                if (at[PAIRS[k]] != ALL_WAYS) {
                    waiting[waitingCount] = PAIRS[k];
                    waits[PAIRS[k]] = true;
                    waitingCount++;
                }
            }
            boolean fine = spread();
            changes = 0;
            return fine;
        }

        /** Keeps what follows from the waiting pairs, till none waits; false as soon as a set is empty. */
        boolean spread() {
            boolean fine = true;
            // Each pair waits at first, and again for each way that it loses.
            for (int turn = 0; turn < MOST_PAIRS + MOST_CHANGES && waitingCount > 0; turn++) {
                int place = waiting[firstWaiting];
                firstWaiting = (firstWaiting + 1) % MOST_PAIRS;
                waitingCount--;
                waits[place] = false;
                int a = place / SIDE;
                int b = place % SIDE;
                for (int c = 0; c < count && fine; c++) {
                    if (c != a && c != b) {
                        fine = keep(a * SIDE + c, rules.ofTwo(at[place], at[b * SIDE + c]))
                            && keep(c * SIDE + b, rules.ofTwo(at[c * SIDE + a], at[place]));
                    }
                }
            }
            return fine;
        }

        /** Keeps at a place only some ways, and lets the pair wait if that is fewer; false if none is left. */
        boolean keep(int place, int some) {
            int ahead = at[place];
            int set = ahead & some;
            if (set == ahead) {
                return true;
            }
            if (changes < MOST_CHANGES) {
                changedPlaces[changes] = place;
                changedSets[changes] = ahead;
                changes++;
            }
            int turnedPlace = place % SIDE * SIDE + place / SIDE;
            at[place] = set;
            at[turnedPlace] = rules.turns[set];
            int pair = Math.min(place, turnedPlace);
            if (set != 0 && !waits[pair] && waitingCount < MOST_PAIRS) {
                waiting[(firstWaiting + waitingCount) % MOST_PAIRS] = pair;
                waits[pair] = true;
                waitingCount++;
            }
            return set != 0;
        }

        /** Takes changes back till there are only so many. */
        void takeBack(int sofar) {
            for (int i = changes - 1; i >= sofar; i--) {
                int place = changedPlaces[i];
                at[place] = changedSets[i];
                at[place % SIDE * SIDE + place / SIDE] = rules.turns[changedSets[i]];
            }
            changes = Math.min(changes, sofar);
        }
    }

    /** A search, choice by choice; its sets are filled ahead of open(). */
    private static final class Search {
        static final int MOST_CHOICES = 20000;
        static final int GOES = 0;
        static final int FOUND = 1;
        static final int ENDED = 2;
        static final int SPENT = 3;

        final Sets sets;
        int year;
        int choices;
        int blinds;
        int stand;
        int pairs;
        /** How many pairs have a way now. */
        int chosen;
        private final int[] untaken;
        private final int[] marks;

        Search(Ways rules) {
            sets = new Sets(rules);
            year = NONE;
            stand = ENDED;
            untaken = new int[MOST_PAIRS];
            marks = new int[MOST_PAIRS];
        }

        void become(Search other) {
            sets.become(other.sets);
            year = other.year;
            choices = other.choices;
            blinds = other.blinds;
            stand = other.stand;
            pairs = other.pairs;
            chosen = other.chosen;
            System.arraycopy(other.untaken, 0, untaken, 0, MOST_PAIRS);
            System.arraycopy(other.marks, 0, marks, 0, MOST_PAIRS);
        }

        void open(int asOf) {
            year = asOf;
            choices = 0;
            blinds = 0;
            chosen = 0;
            pairs = sets.pairs();
            if (pairs == 0) {
                stand = FOUND;
            } else if (sets.shrinkAll()) {
                stand = GOES;
                untaken[0] = sets.at[Sets.PAIRS[0]];
            } else {
                stand = ENDED;
            }
        }

        /** Makes so many choices more, or fewer if it doesn't go on: how it stands then. */
        int run(int most) {
            for (int i = 0; i < most && stand == GOES; i++) {
                int way = untaken[chosen] & -untaken[chosen];
                untaken[chosen] &= ~way;
                marks[chosen] = sets.changes;
                choices++;
                if (sets.keep(Sets.PAIRS[chosen], way) && sets.spread()) {
                    goAhead();
                } else {
                    blinds++;
                    goBack();
                }
                seeWhetherSpent();
            }
            return stand;
        }

        /** Goes on behind a telling that is found, as behind a blind choice, to the next one. */
        int runBehind() {
            stand = GOES;
            chosen--;
            goBack();
            seeWhetherSpent();
            return run(MOST_CHOICES);
        }

        /** Leaves the way to its pair, and opens the next pair. */
        private void goAhead() {
            chosen++;
            if (chosen < pairs) {
                untaken[chosen] = sets.at[Sets.PAIRS[chosen]];
            } else {
                stand = FOUND;
            }
        }

        /** Goes back to the last pair that still has a way to take, this one or one ahead of it. */
        private void goBack() {
            if (chosen >= 0) {
                sets.takeBack(marks[chosen]);
            }
            while (chosen >= 0 && untaken[chosen] == 0) {
                chosen--;
                if (chosen >= 0) {
                    sets.takeBack(marks[chosen]);
                }
            }
            if (chosen < 0) {
                chosen = 0;
                stand = ENDED;
            }
        }

        private void seeWhetherSpent() {
            if (stand == GOES && choices >= MOST_CHOICES) {
                stand = SPENT;
            }
        }
    }

    /** A land laid out in cells. */
    private static final class Plan {
        // One for each field, and two for each pair.
        private static final int MOST_CELLS = MOST_FIELDS + 2 * MOST_PAIRS;
        private static final int UPWARD = WITHIN | 1 << SAME;

        int count;
        /** The fields in which each cell is, as bits. */
        final int[] in;
        final int[] mates;

        Plan() {
            count = 0;
            in = new int[MOST_CELLS];
            mates = new int[MOST_CELLS];
        }

        void become(Plan other) {
            count = other.count;
            System.arraycopy(other.in, 0, in, 0, count);
            System.arraycopy(other.mates, 0, mates, 0, count);
        }

        boolean hasCell(int cell) {
            return cell >= 0 && cell < count;
        }

        /** Lays out the telling that the sets are. */
        void layOut(Sets sets) {
            count = 0;
            for (int x = 0; x < sets.count; x++) {
                addCell(upOf(sets, x));
            }
            int pairs = sets.pairs();
            for (int k = 0; k < pairs; k++) {
                layPair(sets, Sets.PAIRS[k] / 10, Sets.PAIRS[k] % 10);
            }
        }

        private void layPair(Sets sets, int x, int y) {
            int upX = upOf(sets, x);
            int upY = upOf(sets, y);
            switch (Ways.only(sets.at[x * Sets.SIDE + y])) {
                case OVER:
                    addCell(upX | upY);
                    break;
                case TOUCH:
                    addMates(upX | beyond(sets, upY), upY | beyond(sets, upX));
                    break;
                case EDGE:
                    addMates(upX, beyond(sets, upX));
                    break;
                case ROUND:
                    addMates(upY, beyond(sets, upY));
                    break;
                default:
                    break;
            }
        }

        private void addCell(int fields) {
            if (count < MOST_CELLS) {
                in[count] = fields;
                mates[count] = NONE;
                count++;
            }
        }

        private void addMates(int fields, int mateFields) {
            if (count + 2 <= MOST_CELLS) {
                addCell(fields);
                addCell(mateFields);
                mates[count - 2] = count - 1;
                mates[count - 1] = count - 2;
            }
        }

        private static int upOf(Sets sets, int x) {
            return 1 << x | reached(sets, x, UPWARD);
        }

        private static int beyond(Sets sets, int set) {
            int beyond = 0;
            for (int x = 0; x < sets.count; x++) {
                if ((set >> x & 1) != 0) {
                    beyond |= reached(sets, x, 1 << INSIDE);
                }
            }
            return beyond;
        }

        /** All fields to which x lies by one of some ways. */
        private static int reached(Sets sets, int x, int some) {
            int reached = 0;
            for (int y = 0; y < sets.count; y++) {
                if (y != x && (sets.at[x * Sets.SIDE + y] & some) != 0) {
                    reached |= 1 << y;
                }
            }
            return reached;
        }

        /** The way of a to b by the cells; NONE if one of them has none. */
        int wayOf(int a, int b) {
            boolean shared = false;
            boolean others = false;
            boolean othersOfB = false;
            for (int c = 0; c < count; c++) {
                shared |= isIn(c, a) && isIn(c, b);
                others |= isIn(c, a) && !isIn(c, b);
                othersOfB |= isIn(c, b) && !isIn(c, a);
            }
            if (!shared && (!others || !othersOfB)) {
                return NONE;
            }
            if (!shared) {
                return hasNext(a, b, true) ? TOUCH : APART;
            }
            if (others && othersOfB) {
                return OVER;
            }
            if (othersOfB) {
                return hasNext(a, b, false) ? EDGE : INSIDE;
            }
            if (others) {
                return hasNext(b, a, false) ? ROUND : HOLDS;
            }
            return SAME;
        }

        private boolean isIn(int cell, int field) {
            return (in[cell] >> field & 1) != 0;
        }

        /** Whether a cell of a has a mate that is one of b (or that is none of b). */
        private boolean hasNext(int a, int b, boolean ofB) {
            for (int c = 0; c < count; c++) {
                if (isIn(c, a) && hasCell(mates[c]) && isIn(mates[c], b) == ofB) {
                    return true;
                }
            }
            return false;
        }
    }

    /** How grounds lie on the board; and the lands drawn on it. */
    private static final class Board {
        static final long RIM = 0xFF818181818181FFL;
        private static final long FIRST_COLUMN = 0x0101010101010101L;
        private static final long LAST_COLUMN = 0x8080808080808080L;

        int seedNow;
        /** The ways seen of the first box to the third, by those of first to second and second to third. */
        final int[] seen;

        Board() {
            seedNow = 1;
            seen = new int[WAYS * WAYS];
        }

        void become(Board other) {
            seedNow = other.seedNow;
            System.arraycopy(other.seen, 0, seen, 0, seen.length);
        }

        void drawLand() {
            long first = drawBox();
            long second = drawBox();
            long third = drawBox();
            seen[wayOf(first, second) * WAYS + wayOf(second, third)] |= 1 << wayOf(first, third);
        }

        int foundWays() {
            int count = 0;
            for (int i = 0; i < seen.length; i++) {
                count += Integer.bitCount(seen[i]);
            }
            return count;
        }

        private long drawBox() {
            int row = drawBelow(6);
            int column = drawBelow(6);
            int lastRow = Math.min(7, row + drawBelow(3));
            int lastColumn = Math.min(7, column + drawBelow(3));
            return box(row, column, lastRow, lastColumn);
        }

        private int drawBelow(int n) {
            seedNow = seedNow * 1103515245 + 12345;
            return (seedNow >>> 16) % Math.max(1, n);
        }

        private static long box(int row, int column, int lastRow, int lastColumn) {
            long cells = 0;
            for (int r = row; r <= lastRow; r++) {
                for (int c = column; c <= lastColumn; c++) {
                    cells |= 1L << (r * 8 + c);
                }
            }
            return cells;
        }

        /** All cells that are next to one of some. */
        private static long nextTo(long cells) {
            long eastAndWest = (cells & ~LAST_COLUMN) << 1 | (cells & ~FIRST_COLUMN) >>> 1;
            return eastAndWest | cells << 8 | cells >>> 8;
        }

        /** The way of a to b; neither is empty. */
        static int wayOf(long a, long b) {
            long shared = a & b;
            if (shared == 0) {
                return (nextTo(a) & b) != 0 ? TOUCH : APART;
            }
            if (a == b) {
                return SAME;
            }
            if (shared == a) {
                return (nextTo(a) & ~b) != 0 ? EDGE : INSIDE;
            }
            if (shared == b) {
                return (nextTo(b) & ~a) != 0 ? ROUND : HOLDS;
            }
            return OVER;
        }

        static boolean isPiece(long cells) {
            return flood(cells & -cells, cells) == cells;
        }

        static boolean isDisc(long cells) {
            long others = ~cells;
            return isPiece(cells) && flood(others & RIM, others) == others;
        }

        static boolean isBox(long cells) {
            int rows = rowsOf(cells);
            int columns = columnsOf(cells);
            return box(least(rows), least(columns), greatest(rows), greatest(columns)) == cells;
        }

        /** All cells of an area to which one comes from some of it. */
        private static long flood(long some, long area) {
            long flooded = some;
            for (int i = 0; i < CELLS; i++) {
                flooded |= nextTo(flooded) & area;
            }
            return flooded;
        }

        /** The rows that have one of some cells, as bits. */
        static int rowsOf(long cells) {
            int rows = 0;
            for (int r = 0; r < 8; r++) {
                if ((cells >>> 8 * r & 255) != 0) {
                    rows |= 1 << r;
                }
            }
            return rows;
        }

        static int columnsOf(long cells) {
            int columns = 0;
            for (int r = 0; r < 8; r++) {
                columns |= (int) (cells >>> 8 * r) & 255;
            }
            return columns;
        }

        /** The least of some rows or columns. */
        static int least(int bits) {
            return Integer.bitCount((bits & -bits) - 1);
        }

        /** The greatest of some rows or columns. */
        static int greatest(int bits) {
            int greatest = NONE;
            for (int i = 0; i < 8; i++) {
                greatest = (bits >> i & 1) != 0 ? i : greatest;
            }
            return greatest;
        }
    }

    /** Which sets of the deeds can be, and what is to be said of these that can't. */
    private static final class Quarrels {
        private static final int MOST = 8;

        int quarrel;
        int leastSum;
        int doubted;
        int rivals;
        private int count;
        private final int[] numbers;
        /** Which sets can be, by their bits among the deeds as of the year alone. */
        private final boolean[] fine;

        Quarrels() {
            numbers = new int[MOST];
            fine = new boolean[1 << MOST];
        }

        /** Looks at all sets of the deeds as of a year; false if there are too many, or a search is spent. */
        boolean examine(Land land, Search probe, int year) {
            int among = land.asOf(year);
            if (Integer.bitCount(among) > MOST) {
                return false;
            }
            list(among);
            // What is part of a set has a lesser number than this, so it comes behind it.
            for (int set = (1 << count) - 1; set >= 0; set--) {
                fine[set] = isPartOfFine(set);
                if (!fine[set]) {
                    int answer = land.canBe(probe, year, deedsOf(set));
                    if (answer == STATE) {
                        return false;
                    }
                    fine[set] = answer == 1;
                }
            }
            findQuarrel();
            findDoubt(land);
            return true;
        }

        private void list(int among) {
            count = 0;
            for (int d = 0; d < MOST_DEEDS && count < MOST; d++) {
                if ((among >> d & 1) != 0) {
                    numbers[count] = d;
                    count++;
                }
            }
        }

        private boolean isPartOfFine(int set) {
            for (int i = 0; i < count; i++) {
                if ((set >> i & 1) == 0 && fine[set | 1 << i]) {
                    return true;
                }
            }
            return false;
        }

        private int deedsOf(int set) {
            int deeds = 0;
            for (int i = 0; i < count; i++) {
                deeds |= (set >> i & 1) != 0 ? 1 << numbers[i] : 0;
            }
            return deeds;
        }

        private void findQuarrel() {
            quarrel = 0;
            int fewest = MOST + 1;
            for (int set = 0; set < 1 << count; set++) {
                if (!fine[set] && Integer.bitCount(set) < fewest) {
                    fewest = Integer.bitCount(set);
                    quarrel = deedsOf(set);
                }
            }
        }

        private void findDoubt(Land land) {
            leastSum = NONE;
            doubted = 0;
            rivals = 0;
            int all = (1 << count) - 1;
            for (int set = 0; set <= all; set++) {
                if (fine[all & ~set]) {
                    int sum = sumOf(land, set);
                    if (leastSum == NONE || sum < leastSum) {
                        leastSum = sum;
                        doubted = deedsOf(set);
                        rivals = 1;
                    } else if (sum == leastSum) {
                        rivals++;
                    }
                }
            }
        }

        private int sumOf(Land land, int set) {
            int sum = 0;
            for (int i = 0; i < count; i++) {
                sum += (set >> i & 1) != 0 ? land.deeds[numbers[i]].weight : 0;
            }
            return sum;
        }
    }
}
