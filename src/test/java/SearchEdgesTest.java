/** The boundaries that promises 55 to 57 name: a SEARCH under way from its first CHOICE to its 20,000th. */
public final class SearchEdgesTest {
    private static final int BAD = Due.BAD;
    private static final int STATE = Due.STATE;

    private SearchEdgesTest() {
    }

    public static void main(String[] args) {
        none();
        fewFields();
        stepSizes();
        whats();
        years();
        emptyAtOnce();
        foundAtTheEnd();
        endedAtTheEnd();
        spentAtTheEnd();
        blindAndBack();
        givenUp();
        asTheyWere();
        rings();
        Due.end("SearchEdgesTest");
    }

    private static void expect(String name, DeedCourt x, int... due) {
        for (int what = 0; what < due.length; what++) {
            Due.is(57, name + ": search(" + what + ")", x.search(what), due[what]);
        }
    }

    /** "STATE: none." */
    private static void none() {
        DeedCourt x = Due.land(2);
        expect("none", x, STATE, STATE, STATE, STATE, STATE);
        Due.is(56, "none", x.step(1), STATE);
        Due.is(57, "BAD ahead of STATE", x.search(5), BAD);
        Due.is(57, "BAD ahead of STATE", x.search(-1), BAD);
        Due.is(56, "BAD ahead of STATE", x.step(0), BAD);
        Due.is(56, "BAD ahead of STATE", x.step(1000), BAD);
        Due.is(55, "no YEAR: none then, too", x.begin(1000), BAD);
        Due.is(57, "none", x.search(0), STATE);
        Due.is(60, "STATE", x.status(15), 7);
        Due.is(60, "BAD", x.status(12), 5);
    }

    /** "(With fewer than two FIELDS it is FOUND at once.)" */
    private static void fewFields() {
        for (int fields = 0; fields <= 1; fields++) {
            DeedCourt x = Due.land(fields);
            Due.is(55, "no PAIRS", x.begin(999), 0);
            expect("FOUND at once", x, 999, 0, 0, 1, 0);
            Due.is(56, "it is FOUND", x.step(1), STATE);
        }
        DeedCourt x = Due.land(2);
        Due.is(55, "one PAIR", x.begin(0), 1);
        expect("it goes on", x, 0, 0, 0, 0, 0);
        Due.is(56, "one CHOICE", x.step(999), 1);
        expect("FOUND", x, 0, 1, 0, 1, 1);
        Due.is(56, "it is FOUND", x.step(999), STATE);
        Due.is(55, "ten FIELDS, 45 PAIRS", Due.land(10).begin(0), 45);
    }

    /** "n CHOICES (1 to 999) more". */
    private static void stepSizes() {
        DeedCourt x = Due.land(10);
        x.begin(0);
        Due.is(56, "0", x.step(0), BAD);
        Due.is(56, "1000", x.step(1000), BAD);
        Due.is(56, "-1", x.step(-1), BAD);
        expect("nothing was made", x, 0, 0, 0, 0, 0);
        Due.is(56, "1", x.step(1), 1);
        Due.is(56, "43", x.step(43), 43);
        expect("one is left", x, 0, 44, 0, 0, 44);
        Due.is(56, "999: till it is FOUND", x.step(999), 1);
        expect("FOUND", x, 0, 45, 0, 1, 45);
        x.begin(0);
        Due.is(56, "as many as there are", x.step(45), 45);
        expect("FOUND", x, 0, 45, 0, 1, 45);
        x.begin(0);
        Due.is(56, "one more than there are", x.step(46), 45);
        DeedCourt hard = Hard.land(3);
        hard.begin(0);
        Due.is(56, "999", hard.step(999), 999);
        Due.is(57, "999", hard.search(1), 999);
        Due.is(56, "998", hard.step(998), 998);
        Due.is(57, "1997", hard.search(1), 1997);
    }

    private static void whats() {
        DeedCourt x = Due.land(3);
        x.begin(5);
        x.step(2);
        Due.is(57, "-1", x.search(-1), BAD);
        expect("0 to 4", x, 5, 2, 0, 0, 2);
        Due.is(57, "5", x.search(5), BAD);
        Due.is(60, "BAD", x.status(12), 2);
    }

    private static void years() {
        for (int year : new int[] {0, 1, 998, 999}) {
            DeedCourt x = Due.land(2, "0 over 1 year " + year, "1 edge 0 year " + year);
            if (year > 0) {
                Due.is(55, "the year ahead of it", x.begin(year - 1), 1);
                expect("it goes on", x, year - 1, 0, 0, 0, 0);
            }
            Due.is(55, "its own YEAR", x.begin(year), 1);
            expect("ended", x, year, 0, 0, 2, 0);
            Due.is(55, "YEAR -1", x.begin(-1), BAD);
            Due.is(55, "YEAR 1000", x.begin(1000), BAD);
            expect("that gives up no other", x, year, 0, 0, 2, 0);
        }
    }

    /** "SETS SHRUNK (if one is empty: it ends, none)". */
    private static void emptyAtOnce() {
        DeedCourt x = Due.land(3, "0 inside 1", "1 inside 2", "2 touch 0");
        Due.is(55, "begin", x.begin(0), 3);
        expect("ended", x, 0, 0, 0, 2, 0);
        Due.is(56, "it has ended", x.step(1), STATE);
        expect("ended still", x, 0, 0, 0, 2, 0);
    }

    private static void goTo(DeedCourt x, int choices) {
        x.begin(0);
        int made = 0;
        while (made < choices) {
            int n = Math.min(999, choices - made);
            Due.is(56, "step", x.step(n), n);
            made += n;
        }
        Due.is(57, "CHOICES", x.search(1), choices);
        Due.is(57, "it goes on", x.search(3), 0);
    }

    private static void foundAtTheEnd() {
        DeedCourt x = Late.found19999();
        goTo(x, 19998);
        Due.is(56, "the last one", x.step(999), 1);
        expect("FOUND", x, 0, 19999, 14777, 1, 15);
        Due.is(56, "it is FOUND", x.step(1), STATE);
        DeedCourt y = Late.found20000();
        goTo(y, 19999);
        Due.is(57, "but the last PAIR", y.search(4), 27);
        Due.is(56, "the 20,000th", y.step(999), 1);
        expect("FOUND, not SPENT", y, 0, 20000, 14580, 1, 28);
        Due.is(56, "it is FOUND", y.step(1), STATE);
        DeedCourt z = Late.found20001();
        goTo(z, 19999);
        Due.is(56, "the 20,000th", z.step(999), 1);
        expect("SPENT: it would be FOUND with one more", z, 0, 20000);
        Due.is(57, "SPENT", z.search(3), 3);
        Due.is(57, "but the last PAIR", z.search(4), 20);
        Due.is(56, "it is SPENT", z.step(1), STATE);
    }

    private static void endedAtTheEnd() {
        DeedCourt x = Late.ended20000();
        goTo(x, 19999);
        Due.is(56, "the 20,000th", x.step(999), 1);
        expect("ended, not SPENT", x, 0, 20000, 16043, 2, 0);
        Due.is(56, "it has ended", x.step(1), STATE);
        DeedCourt y = Late.ended20001();
        goTo(y, 19999);
        Due.is(56, "the 20,000th", y.step(999), 1);
        Due.is(57, "SPENT: it would end with one more", y.search(3), 3);
        Due.is(57, "CHOICES", y.search(1), 20000);
        Due.is(56, "it is SPENT", y.step(1), STATE);
    }

    private static void spentAtTheEnd() {
        DeedCourt x = Hard.land(5);
        goTo(x, 19999);
        Due.is(56, "one is what is asked for", x.step(1), 1);
        Due.is(57, "SPENT", x.search(3), 3);
        Due.is(57, "CHOICES", x.search(1), 20000);
        Due.is(56, "it is SPENT", x.step(1), STATE);
        Due.is(56, "BAD ahead of STATE", x.step(0), BAD);
        Due.is(57, "CHOICES", x.search(1), 20000);
        Due.is(55, "another one", x.begin(1), 36);
        expect("it goes on", x, 1, 0, 0, 0, 0);
        Due.is(56, "it goes on", x.step(1), 1);
    }

    /** "If a BLIND one leaves no WAY to take there, the PAIR ahead of it has none any more and is gone on with, at once". */
    private static void blindAndBack() {
        DeedCourt x = Hard.land(0);
        x.begin(0);
        int[][] due = {{1, 1, 0}, {2, 2, 0}, {3, 3, 2}};
        for (int[] d : due) {
            Due.is(56, "step", x.step(1), 1);
            expect("BLIND", x, 0, d[0], d[1], d[2], 0);
        }
        Due.is(56, "none ahead: it has ended", x.step(1), STATE);
        // One FIELD more ahead of these: of 1 and 2 each of three is BLIND, so that of 0 and 2 the next WAY is taken;
        // as soon as none is left there, 0 and 1 are gone on with. (CHOICES, BLIND ones, PAIRS that have one.)
        DeedCourt y = Hard.land(1);
        y.begin(0);
        int[][] more = {{1, 0, 1}, {2, 0, 2}, {3, 1, 2}, {4, 2, 2}, {5, 3, 1}, {6, 4, 1}, {7, 5, 1}, {8, 6, 1}, {9, 7, 0},
            {10, 7, 1}, {11, 8, 1}, {12, 8, 2}, {13, 9, 2}, {14, 10, 2}};
        for (int[] m : more) {
            Due.is(56, "step", y.step(1), 1);
            expect("CHOICE " + m[0], y, 0, m[0], m[1], 0, m[2]);
        }
    }

    /** "(another one is given up)". */
    private static void givenUp() {
        DeedCourt x = Due.land(4, "0 edge 1 year 3");
        x.begin(0);
        x.step(3);
        Due.is(55, "anew", x.begin(3), 6);
        expect("from its start", x, 3, 0, 0, 0, 0);
        x.step(6);
        expect("FOUND", x, 3, 6, 0, 1, 6);
        Due.is(55, "anew, though FOUND", x.begin(0), 6);
        expect("from its start", x, 0, 0, 0, 0, 0);
    }

    /** "by FIELDS and DEEDS as they are now". */
    private static void asTheyWere() {
        DeedCourt x = Due.land(2, "0 old 0 1");
        x.begin(0);
        x.field(0, 0);
        x.mean(0, 2);
        x.drop(0, true);
        Due.deed(x, "0 same 1");
        Due.deed(x, "0 edge 1");
        expect("as it was", x, 0, 0, 0, 0, 0);
        Due.is(56, "one PAIR still", x.step(9), 1);
        expect("FOUND", x, 0, 1, 0, 1, 1);
        Due.is(55, "as they are now", x.begin(0), 3);
        expect("ended", x, 0, 0, 0, 2, 0);
        // Other calls make SEARCHES of their own.
        DeedCourt y = Hard.land(1);
        y.begin(0);
        y.step(4);
        y.can(0);
        y.many(0, 5);
        y.lay(0);
        y.shrink(0);
        y.ways(0, 1, 0);
        y.quarrel(0);
        y.may(0, 1, 0);
        expect("that of begin() is as it was", y, 0, 4, 2, 0, 2);
        Due.is(56, "it goes on", y.step(1), 1);
        expect("and on", y, 0, 5, 3, 0, 1);
    }

    /** A SEARCH doesn't ask for RINGS. */
    private static void rings() {
        DeedCourt x = Due.land(2, "0 east 1", "1 east 0");
        Due.is(55, "begin", x.begin(0), 1);
        Due.is(56, "step", x.step(1), 1);
        expect("FOUND", x, 0, 1, 0, 1, 1);
        Due.is(25, "it CAN not be", x.can(0), 0);
    }
}
