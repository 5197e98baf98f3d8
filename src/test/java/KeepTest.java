/** Promises 58 to 60: what is kept, what comes back, and how things stand. */
public final class KeepTest {
    private static final int BAD = -2;
    private static final int STATE = -5;

    private KeepTest() {
    }

    public static void main(String[] args) {
        nothingKept();
        fieldsAndDeeds();
        laidAndDrawn();
        underWay();
        shelves();
        again();
        status();
        Due.end("KeepTest");
    }

    private static void nothingKept() {
        DeedCourt x = Due.land(1);
        Due.is(59, "nothing was kept", x.back(), STATE);
        Due.is(59, "nothing changes", x.status(0), 1);
        Due.is(58, "image", x.image(), 1);
        Due.is(59, "back", x.back(), 1);
        Due.is(60, "STATE", x.status(15), 1);
    }

    private static void fieldsAndDeeds() {
        DeedCourt x = Due.land(2, "0 edge 1 weight 5", "0 old 1 1");
        x.mean(1, 3);
        Due.draw(x, 0, "#");
        x.image();
        Due.deed(x, "1 over 0");
        x.drop(0, true);
        x.weigh(0, 9);
        x.mean(1, 6);
        x.mean(0, 6);
        Due.draw(x, 0, "##");
        Due.draw(x, 1, "##");
        x.part(0, 3);
        Due.is(59, "back", x.back(), 1);
        Due.is(60, "fields", x.status(0), 2);
        Due.is(60, "deeds", x.status(1), 2);
        Due.is(10, "kind", x.fieldOf(0, 0), 0);
        Due.is(10, "parted", x.fieldOf(0, 2), -1);
        Due.is(10, "part", x.fieldOf(0, 3), -1);
        Due.is(47, "ground", x.groundOf(0), 1);
        Due.is(47, "ground", x.groundOf(1), 0);
        Due.is(15, "weight", x.deedOf(0, 3), 5);
        Due.is(15, "dropped", x.deedOf(0, 6), 0);
        Due.is(15, "lets", x.deedOf(1, 5), 8);
        Due.is(18, "mean", x.mean(1, 3), 3);
        Due.is(18, "mean", x.mean(0, -1), -1);
        Due.is(15, "no such deed any more", x.deedOf(2, 0), BAD);
        Due.is(22, "ways", x.ways(0, 1, 999), 8);
        Due.is(9, "the next field", x.field(2, 8), 2);
        Due.is(47, "which has no ground", x.groundOf(2), 0);
        Due.is(14, "the next deed", Due.deed(x, "2 same 0"), 2);
        Due.is(15, "its weight", x.deedOf(2, 3), 1);
    }

    private static void laidAndDrawn() {
        DeedCourt x = Due.land(2, "0 touch 1");
        x.lay(0);
        x.seed(99);
        int ways = x.draw(10);
        int seed = x.status(3);
        x.image();
        x.drop(0, true);
        Due.deed(x, "0 over 1");
        x.lay(0);
        int more = x.draw(50);
        Due.is(44, "no mates", x.mate(2), -1);
        x.back();
        Due.is(59, "seed", x.status(3), seed);
        Due.is(59, "laid", x.laid(0, 1), 1);
        Due.is(59, "mate", x.mate(2), 3);
        Due.is(59, "cell", x.cell(3, 1), 1);
        Due.is(59, "found and seed", x.draw(50), more);
        Due.is(52, "more are found", more > ways ? 1 : 0, 1);
        DeedCourt y = Due.land(1);
        y.image();
        y.lay(0);
        y.back();
        Due.is(59, "nothing was laid", y.mate(0), BAD);
    }

    private static void underWay() {
        DeedCourt x = Due.land(4, "0 apart or round 2", "2 round or inside 3", "1 same or touch 3", "0 inside or round 3",
            "1 inside or holds 2");
        x.image();
        x.begin(0);
        x.step(1);
        Due.is(59, "back", x.back(), 1);
        Due.is(57, "none was under way", x.search(1), STATE);
        x.begin(0);
        int[] states = new int[50];
        int made = 0;
        while (x.search(3) == 0 && made < 9) {
            states[made] = x.search(2) * 100 + x.search(4);
            x.image();
            x.step(1);
            x.step(3);
            x.back();
            Due.is(59, "choices", x.search(1), made);
            Due.is(59, "blind ones and pairs", x.search(2) * 100 + x.search(4), states[made]);
            x.step(1);
            made++;
        }
        Due.is(57, "choices", made, 9);
        Due.is(57, "found", x.search(3), 1);
        Due.is(57, "blind", x.search(2), 3);
    }

    private static void shelves() {
        DeedCourt x = Due.land(2);
        x.show(0, 1);
        x.image();
        x.part(1, 0);
        x.field(3, 0);
        x.show(1, 1);
        x.show(2, 2);
        x.show(3, 4);
        x.row(4, 2, 3);
        x.set(4, 1, 77);
        x.row(5, 0, 1);
        Due.feed(x, "0 ap");
        Due.is(8, "gone", x.says(0, 4), 2);
        Due.is(60, "shelves that hold something", x.status(4), 6);
        Due.is(5, "BAD", x.set(4, 3, 1), BAD);
        x.back();
        Due.is(59, "the tape stays", x.status(2), 4);
        Due.is(59, "what was shown ahead of it", x.holds(0), 11);
        Due.is(59, "what was shown behind it", x.holds(1), 11);
        Due.is(59, "a field that isn't there any more", x.holds(2), -1);
        Due.is(59, "a field that isn't there any more", x.holds(3), -1);
        Due.is(59, "a row", x.element(4, 1), 77);
        Due.is(59, "a row", x.holds(5), 0);
        Due.is(60, "shelves that hold something", x.status(4), 4);
        Due.is(8, "not gone any more", x.says(0, 4), -3);
        Due.is(8, "nothing", x.says(2, 0), -4);
        Due.is(60, "BAD stays", x.status(12), 1);
        Due.is(14, "the tape goes on", Due.deed(x, "art 1"), 0);
    }

    private static void again() {
        DeedCourt x = Due.land(1);
        x.image();
        x.field(0, 0);
        x.back();
        Due.is(59, "back", x.status(0), 1);
        x.field(0, 0);
        x.field(0, 0);
        x.back();
        Due.is(59, "back once more", x.status(0), 1);
        x.field(0, 0);
        x.image();
        x.field(0, 0);
        x.back();
        Due.is(59, "as it was kept last", x.status(0), 2);
        DeedCourt y = Due.land(3);
        y.image();
        y.field(1, 5);
        y.image();
        y.back();
        Due.is(59, "all four", y.status(0), 4);
        Due.is(59, "the fourth", y.fieldOf(3, 1), 5);
    }

    private static void status() {
        DeedCourt x = Due.land(2, "0 apart 1");
        x.drop(0, true);
        x.row(3, 1, 1);
        x.show(4, 1);
        x.feed(1, 3);
        x.seed(-7);
        int[] due = {2, 1, 3, -7, 2};
        for (int what = 0; what < 5; what++) {
            Due.is(60, "status(" + what + ")", x.status(what), due[what]);
        }
        for (int other : new int[] {-1, 5, 6, 11, 17, -2, 100, Integer.MIN_VALUE, Integer.MAX_VALUE}) {
            Due.is(60, "status(" + other + ")", x.status(other), -1);
        }
        x.row(8, 0, 0);
        x.set(4, 0, 0);
        x.set(4, 0, 0);
        x.set(5, 0, 0);
        x.set(5, 0, 0);
        x.set(5, 0, 0);
        x.back();
        for (int i = 0; i < 4; i++) {
            x.step(1);
        }
        for (int i = 0; i < 13; i++) {
            x.field(0, 0);
        }
        int[] refused = {1, 2, 3, 5, 5};
        for (int i = 0; i < 5; i++) {
            Due.is(60, "status(" + (12 + i) + ")", x.status(12 + i), refused[i]);
        }
    }
}
