import java.util.ArrayList;
import java.util.List;

/**
 * An object in which something stands everywhere, and all that can be told of it: two that were used alike tell the
 * same. How many REFUSALS there were is told apart.
 */
final class Standing {
    /** Five FIELDS (1 is GONE), four DEEDS, SHELVES with all there is, a TAPE that is a DEED, a SEARCH under way. */
    static final int FIELDS = 5;
    static final int DEEDS = 4;
    static final int ROW_SHELF = 0;
    static final int FIELD_SHELF = 1;
    static final int NOTHING_SHELF = 2;
    static final int LONG_SHELF = 3;
    static final int EMPTY_ROW_SHELF = 4;
    static final int GONE_SHELF = 5;

    private Standing() {
    }

    static DeedCourt make() {
        DeedCourt x = new DeedCourt();
        x.field(0, 3);
        x.field(3, 0);
        x.field(1, 7);
        Due.deed(x, "0 touch 2 weight 7");
        Due.deed(x, "0 north 2 year 4");
        x.lay(0);
        x.image();
        x.part(1, 5);
        Due.deed(x, "2 not old 3 or old 1 or old 2 0");
        Due.deed(x, "3 old 0 or edge 2 weight 98");
        x.drop(1, true);
        x.mean(0, 4);
        x.mean(1, 2);
        x.mean(2, 7);
        x.mean(3, 0);
        Due.draw(x, 0, "##", "#");
        Due.draw(x, 3, "", " ####");
        x.row(ROW_SHELF, 0, 64);
        x.set(ROW_SHELF, 0, -7);
        x.set(ROW_SHELF, 63, 5);
        x.show(FIELD_SHELF, 2);
        x.row(LONG_SHELF, 3, 3);
        x.set(LONG_SHELF, 2, 1L << 40);
        x.row(EMPTY_ROW_SHELF, 4, 0);
        x.show(GONE_SHELF, 1);
        x.lay(0);
        x.draw(20);
        x.begin(2);
        x.step(3);
        Due.feed(x, "0 apart 2 year 8");
        return x;
    }

    static List<Integer> refusals(DeedCourt x) {
        List<Integer> all = new ArrayList<>();
        for (int what = 12; what <= 16; what++) {
            all.add(x.status(what));
        }
        return all;
    }

    /** All that can be told, to its end: the object is used up by that. */
    static List<Long> tell(DeedCourt x) {
        List<Long> all = new ArrayList<>();
        tellLand(x, all);
        tellShelves(x, all);
        for (int cell = 0; cell < 16; cell++) {
            all.add((long) x.mate(cell));
            for (int f = 0; f < 3; f++) {
                all.add((long) x.cell(cell, f));
            }
        }
        for (int i = 0; i < 64; i++) {
            all.add((long) x.found(i / 8, i % 8));
        }
        all.add((long) x.deed());
        int last = x.status(1) - 1;
        for (int what = 0; what < 7; what++) {
            all.add((long) x.deedOf(last, what));
        }
        all.add((long) x.step(999));
        tellSearch(x, all);
        all.add((long) x.back());
        tellLand(x, all);
        tellSearch(x, all);
        all.add((long) x.mate(3));
        all.add((long) x.laid(0, 2));
        all.add((long) x.draw(30));
        for (int word = 0; word < 4; word++) {
            all.add((long) x.mean(word, 0));
        }
        for (int s = 0; s < 8; s++) {
            all.add((long) x.holds(s));
        }
        return all;
    }

    private static void tellLand(DeedCourt x, List<Long> all) {
        for (int what = 0; what < 5; what++) {
            all.add((long) x.status(what));
        }
        int fields = x.status(0);
        for (int f = 0; f < fields; f++) {
            all.add(x.groundOf(f));
            for (int what = 0; what < 4; what++) {
                all.add((long) x.fieldOf(f, what));
            }
        }
        int deeds = Math.min(6, x.status(1));
        for (int d = 0; d < deeds; d++) {
            for (int what = 0; what < 7; what++) {
                all.add((long) x.deedOf(d, what));
            }
        }
        tellSearch(x, all);
    }

    private static void tellSearch(DeedCourt x, List<Long> all) {
        for (int what = 0; what < 5; what++) {
            all.add((long) x.search(what));
        }
    }

    private static void tellShelves(DeedCourt x, List<Long> all) {
        for (int s = 0; s < 8; s++) {
            all.add((long) x.holds(s));
            for (int i : new int[] {0, 2, 9, 63}) {
                all.add(x.element(s, i));
            }
        }
    }
}
