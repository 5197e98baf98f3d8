/** The boundaries that promises 9 to 11 name: FIELDS, their YEARS, and how they are parted. */
public final class FieldsEdgesTest {
    private static final int NONE = Due.NONE;
    private static final int BAD = Due.BAD;
    private static final int STATE = Due.STATE;
    private static final int FULL = Due.FULL;

    private FieldsEdgesTest() {
    }

    public static void main(String[] args) {
        kinds();
        years();
        numbers();
        fieldOf();
        partYears();
        partsOfEachKind();
        partOfPart();
        partsFull();
        shelves();
        Due.end("FieldsEdgesTest");
    }

    /** "A FIELD of a KIND (0 to 3)": GONE (4) is none of these. */
    private static void kinds() {
        DeedCourt x = new DeedCourt();
        Due.is(9, "KIND -1", x.field(-1, 0), BAD);
        Due.is(9, "KIND 4", x.field(4, 0), BAD);
        for (int kind = 0; kind <= 3; kind++) {
            Due.is(9, "KIND " + kind, x.field(kind, 0), kind);
            Due.is(10, "KIND " + kind, x.fieldOf(kind, 0), kind);
            Due.is(9, "no GROUND at first", x.groundOf(kind), 0);
        }
        Due.is(60, "four", x.status(0), 4);
    }

    /** "from a YEAR (0 to 999) on". */
    private static void years() {
        DeedCourt x = new DeedCourt();
        Due.is(9, "YEAR -1", x.field(0, -1), BAD);
        Due.is(9, "YEAR 1000", x.field(0, 1000), BAD);
        Due.is(9, "YEAR 0", x.field(0, 0), 0);
        Due.is(9, "YEAR 999", x.field(0, 999), 1);
        Due.is(10, "YEAR 0", x.fieldOf(0, 1), 0);
        Due.is(10, "YEAR 999", x.fieldOf(1, 1), 999);
    }

    /** "FIELDS have numbers, 0 on, 10 at most". */
    private static void numbers() {
        DeedCourt x = new DeedCourt();
        for (int f = 0; f < 10; f++) {
            Due.is(9, "FIELD " + f, x.field(f % 4, 100 * f), f);
            Due.is(60, "FIELDS", x.status(0), f + 1);
        }
        Due.is(9, "the eleventh", x.field(0, 0), FULL);
        Due.is(60, "FIELDS", x.status(0), 10);
        Due.is(10, "the last one", x.fieldOf(9, 1), 900);
        Due.is(10, "no eleventh", x.fieldOf(10, 1), BAD);
        Due.is(60, "FULL", x.status(16), 1);
    }

    /** "the YEAR in which it was parted (2; NONE), its first part (3; NONE)": 0 to 3, nothing of another number. */
    private static void fieldOf() {
        DeedCourt x = new DeedCourt();
        x.field(2, 0);
        Due.is(10, "KIND", x.fieldOf(0, 0), 2);
        Due.is(10, "YEAR", x.fieldOf(0, 1), 0);
        Due.is(10, "not parted", x.fieldOf(0, 2), NONE);
        Due.is(10, "no part", x.fieldOf(0, 3), NONE);
        Due.is(10, "4", x.fieldOf(0, 4), BAD);
        Due.is(10, "-1", x.fieldOf(0, -1), BAD);
        x.part(0, 0);
        Due.is(10, "GONE", x.fieldOf(0, 0), 4);
        Due.is(10, "parted in the YEAR 0", x.fieldOf(0, 2), 0);
        Due.is(10, "its first part", x.fieldOf(0, 3), 1);
        Due.is(10, "4, of one that is GONE", x.fieldOf(0, 4), BAD);
    }

    /** "parted in a YEAR (the one from which on it is, or behind it)". */
    private static void partYears() {
        for (int from : new int[] {0, 1, 500, 998, 999}) {
            for (int year : new int[] {-1, 0, from - 1, from, from + 1, 999, 1000}) {
                DeedCourt x = new DeedCourt();
                x.field(0, from);
                boolean fine = year >= from && year <= 999;
                Due.is(11, "part in " + year + " of one from " + from + " on", x.part(0, year), fine ? 1 : BAD);
                Due.is(10, "GONE, or not", x.fieldOf(0, 0), fine ? 4 : 0);
                Due.is(10, "parted, or not", x.fieldOf(0, 2), fine ? year : NONE);
                Due.is(60, "FIELDS", x.status(0), fine ? 3 : 1);
            }
        }
    }

    /** "two new ones of its KIND, from that YEAR on; it is GONE": "(The second one has the next number.)" */
    private static void partsOfEachKind() {
        for (int kind = 0; kind <= 3; kind++) {
            DeedCourt x = Due.land(3);
            x.field(kind, 4);
            Due.draw(x, 3, "##");
            Due.is(11, "the first part's number", x.part(3, 999), 4);
            for (int part = 4; part <= 5; part++) {
                Due.is(11, "a part's KIND", x.fieldOf(part, 0), kind);
                Due.is(11, "a part's YEAR", x.fieldOf(part, 1), 999);
                Due.is(11, "a part isn't parted", x.fieldOf(part, 2), NONE);
                Due.is(11, "a part has no part", x.fieldOf(part, 3), NONE);
                Due.is(11, "a part has no GROUND at first", x.groundOf(part), 0);
            }
            Due.is(11, "its YEAR stays", x.fieldOf(3, 1), 4);
            Due.is(11, "its GROUND stays", x.groundOf(3), 3);
            Due.is(11, "the first part", x.fieldOf(3, 3), 4);
            Due.is(11, "no third part", x.fieldOf(6, 0), BAD);
        }
    }

    private static void partOfPart() {
        DeedCourt x = new DeedCourt();
        x.field(1, 2);
        Due.is(11, "part", x.part(0, 10), 1);
        Due.is(11, "a part is from that YEAR on", x.part(1, 9), BAD);
        Due.is(11, "in that YEAR itself", x.part(1, 10), 3);
        Due.is(11, "the other one, behind it", x.part(2, 11), 5);
        Due.is(11, "it is GONE", x.part(0, 10), STATE);
        Due.is(11, "GONE, too", x.part(1, 999), STATE);
        Due.is(60, "FIELDS", x.status(0), 7);
    }

    /** "FULL: not two are free", "STATE: it is GONE" ahead of it, BAD ahead of both. */
    private static void partsFull() {
        for (int fields = 7; fields <= 10; fields++) {
            DeedCourt x = Due.land(fields);
            boolean fine = fields <= 8;
            Due.is(11, "part of one of " + fields, x.part(0, 0), fine ? fields : FULL);
            Due.is(10, "GONE, or not", x.fieldOf(0, 0), fine ? 4 : 0);
            Due.is(10, "its first part", x.fieldOf(0, 3), fine ? fields : NONE);
            Due.is(60, "FIELDS", x.status(0), fine ? fields + 2 : fields);
            Due.is(11, "no such one", x.part(10, 0), BAD);
        }
        DeedCourt x = Due.land(8);
        x.part(7, 0);
        Due.is(10, "the last two are parts", x.fieldOf(7, 3), 8);
        Due.is(11, "GONE, and none is free", x.part(7, 0), STATE);
        Due.is(11, "no YEAR, and none is free", x.part(6, 1000), BAD);
        Due.is(11, "none is free", x.part(6, 0), FULL);
        Due.is(60, "STATE", x.status(15), 1);
        Due.is(60, "FULL", x.status(16), 1);
        Due.is(60, "BAD", x.status(12), 1);
    }

    /** "it is GONE (FIELDS on SHELVES are so, too)". */
    private static void shelves() {
        DeedCourt x = new DeedCourt();
        x.field(3, 0);
        x.show(0, 0);
        x.show(7, 0);
        Due.is(8, "a BOX", x.says(7, 3), NONE);
        Due.is(8, "not GONE", x.says(7, 4), Due.OTHER);
        x.part(0, 0);
        for (int s : new int[] {0, 7}) {
            Due.is(8, "GONE: its first part", x.says(s, 4), 1);
            Due.is(8, "a FIELD still", x.says(s, 0), 0);
            Due.is(8, "a BOX no more", x.says(s, 3), Due.OTHER);
            Due.is(6, "it is held still", x.holds(s), 10);
        }
    }
}
