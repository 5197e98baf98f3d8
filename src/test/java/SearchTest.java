/** Promises 55 to 57: a search that is under way. */
public final class SearchTest {
    private static final int BAD = -2;
    private static final int STATE = -5;

    private SearchTest() {
    }

    public static void main(String[] args) {
        none();
        atOnce();
        steps();
        asItWas();
        blind();
        back();
        spent();
        bad();
        Due.end("SearchTest");
    }

    private static void expect(DeedCourt x, int... due) {
        for (int what = 0; what < due.length; what++) {
            Due.is(57, "search(" + what + ")", x.search(what), due[what]);
        }
    }

    private static void none() {
        DeedCourt x = Due.land(2);
        expect(x, STATE, STATE, STATE, STATE, STATE);
        Due.is(56, "none is under way", x.step(1), STATE);
        x.choose(0);
        Due.is(57, "that was another search", x.search(0), STATE);
        Due.is(60, "STATE", x.status(15), 7);
    }

    private static void atOnce() {
        DeedCourt x = new DeedCourt();
        Due.is(55, "begin", x.begin(7), 0);
        expect(x, 7, 0, 0, 1, 0);
        Due.is(56, "it is found", x.step(1), STATE);
        DeedCourt y = Due.land(3, "0 apart 1", "1 over 0 year 2");
        Due.is(55, "begin", y.begin(2), 3);
        expect(y, 2, 0, 0, 2, 0);
        Due.is(56, "it has ended", y.step(1), STATE);
        Due.is(55, "begin another", y.begin(1), 3);
        expect(y, 1, 0, 0, 0, 0);
        Due.is(60, "STATE", y.status(15), 1);
    }

    private static void steps() {
        DeedCourt x = Due.land(10, "0 same 9");
        Due.is(55, "begin", x.begin(0), 45);
        for (int i = 1; i <= 10; i++) {
            Due.is(56, "step", x.step(1), 1);
            expect(x, 0, i, 0, 0, i);
        }
        Due.is(56, "step", x.step(34), 34);
        expect(x, 0, 44, 0, 0, 44);
        Due.is(56, "the last one", x.step(999), 1);
        expect(x, 0, 45, 0, 1, 45);
        Due.is(56, "it is found", x.step(1), STATE);
        Due.is(55, "anew", x.begin(999), 45);
        expect(x, 999, 0, 0, 0, 0);
        Due.is(56, "all", x.step(45), 45);
        expect(x, 999, 45, 0, 1, 45);
    }

    private static void asItWas() {
        DeedCourt x = Due.land(3, "0 edge 1", "1 edge 2");
        x.begin(0);
        x.step(1);
        x.drop(0, true);
        x.field(0, 0);
        Due.deed(x, "0 apart 2");
        Due.is(26, "as things are now", x.choose(0), 6);
        Due.is(56, "as they were", x.step(9), 2);
        expect(x, 0, 3, 0, 1, 3);
        x.begin(0);
        Due.is(56, "as they are now", x.step(9), 6);
        x.drop(0, false);
        x.begin(0);
        expect(x, 0, 0, 0, 2, 0);
    }

    private static void blind() {
        DeedCourt x = Hard.land(0);
        x.begin(0);
        Due.is(56, "step", x.step(1), 1);
        expect(x, 0, 1, 1, 0, 0);
        Due.is(56, "step", x.step(1), 1);
        expect(x, 0, 2, 2, 0, 0);
        Due.is(56, "the last way", x.step(9), 1);
        expect(x, 0, 3, 3, 2, 0);
        Due.is(56, "it has ended", x.step(9), STATE);
    }

    private static void back() {
        // For 0 and 1 several ways; each leaves the search blind further on.
        DeedCourt x = Hard.land(1);
        int choices = x.choose(0);
        int blinds = x.blind(0);
        Due.is(25, "it can't be", x.can(0), 0);
        x.begin(0);
        int made = 0;
        int blindsAhead = 0;
        int depthAhead = 0;
        boolean wentBack = false;
        while (x.search(3) == 0 && made < 20000) {
            Due.is(56, "step", x.step(1), 1);
            made++;
            int depth = x.search(4);
            if (x.search(2) == blindsAhead) {
                Due.is(57, "a pair more", depth, depthAhead + 1);
            } else {
                Due.is(57, "no pair more", depth <= depthAhead ? 1 : 0, 1);
                wentBack |= depth < depthAhead - 1;
            }
            blindsAhead = x.search(2);
            depthAhead = depth;
        }
        expect(x, 0, choices, blinds, 2, 0);
        Due.is(57, "over more than one pair at once", wentBack ? 1 : 0, 1);
    }

    private static void spent() {
        DeedCourt x = Hard.land(5);
        Due.is(55, "begin", x.begin(0), 36);
        for (int i = 1; i <= 20; i++) {
            Due.is(56, "step", x.step(999), 999);
            Due.is(57, "it goes on", x.search(3), 0);
        }
        Due.is(56, "step", x.step(19), 19);
        expect(x, 0, 19999);
        Due.is(57, "it goes on", x.search(3), 0);
        Due.is(56, "the 20,000th", x.step(999), 1);
        expect(x, 0, 20000);
        Due.is(57, "spent", x.search(3), 3);
        Due.is(56, "step", x.step(1), STATE);
        Due.is(55, "begin another", x.begin(3), 36);
        expect(x, 3, 0, 0, 0, 0);
    }

    private static void bad() {
        DeedCourt x = Due.land(2);
        Due.is(57, "bad ahead of STATE", x.search(5), BAD);
        Due.is(57, "bad ahead of STATE", x.search(-1), BAD);
        Due.is(56, "bad ahead of STATE", x.step(0), BAD);
        Due.is(56, "bad ahead of STATE", x.step(1000), BAD);
        Due.is(55, "begin", x.begin(-1), BAD);
        Due.is(55, "begin", x.begin(1000), BAD);
        x.begin(0);
        Due.is(56, "step", x.step(-1), BAD);
        Due.is(55, "a bad one gives up no other", x.begin(1000), BAD);
        expect(x, 0, 0, 0, 0, 0);
        Due.is(60, "BAD", x.status(12), 8);
        Due.is(60, "STATE", x.status(15), 0);
    }
}
