/** Promises 9 to 11: fields, and how they are parted. */
public final class FieldsTest {
    private static final int BAD = -2;
    private static final int STATE = -5;
    private static final int FULL = -6;

    private FieldsTest() {
    }

    public static void main(String[] args) {
        fields();
        parts();
        full();
        Due.end("FieldsTest");
    }

    private static void fields() {
        DeedCourt x = new DeedCourt();
        Due.is(9, "field", x.field(3, 999), 0);
        Due.is(9, "field", x.field(0, 0), 1);
        Due.is(10, "kind", x.fieldOf(0, 0), 3);
        Due.is(10, "from", x.fieldOf(0, 1), 999);
        Due.is(10, "parted", x.fieldOf(0, 2), -1);
        Due.is(10, "part", x.fieldOf(0, 3), -1);
        Due.is(9, "GONE is none of these", x.field(4, 0), BAD);
        Due.is(9, "kind", x.field(-1, 0), BAD);
        Due.is(9, "year", x.field(0, -1), BAD);
        Due.is(9, "year", x.field(0, 1000), BAD);
        Due.is(10, "no such field", x.fieldOf(2, 0), BAD);
        Due.is(10, "no such field", x.fieldOf(-1, 0), BAD);
        Due.is(10, "nothing of that number", x.fieldOf(0, 4), BAD);
        Due.is(10, "nothing of that number", x.fieldOf(0, -1), BAD);
        Due.is(60, "BAD", x.status(12), 8);
        Due.is(60, "fields", x.status(0), 2);
        Due.is(47, "no ground at first", x.groundOf(0), 0);
    }

    private static void parts() {
        DeedCourt x = new DeedCourt();
        x.field(2, 5);
        x.show(0, 0);
        Due.draw(x, 0, "#");
        Due.is(11, "ahead of its year", x.part(0, 4), BAD);
        Due.is(11, "no year", x.part(0, 1000), BAD);
        Due.is(11, "no field", x.part(1, 5), BAD);
        Due.is(11, "no field", x.part(-1, 5), BAD);
        Due.is(11, "part", x.part(0, 5), 1);
        int[][] due = {{4, 5, 5, 1}, {2, 5, -1, -1}, {2, 5, -1, -1}};
        for (int f = 0; f < 3; f++) {
            for (int what = 0; what < 4; what++) {
                Due.is(10, "fieldOf(" + f + ", " + what + ")", x.fieldOf(f, what), due[f][what]);
            }
        }
        Due.is(11, "its ground stays", x.groundOf(0), 1);
        Due.is(11, "a part's ground", x.groundOf(1), 0);
        Due.is(11, "on a shelf, too", x.says(0, 4), 1);
        Due.is(11, "gone already", x.part(0, 9), STATE);
        Due.is(11, "gone, and a bad year", x.part(0, 4), BAD);
        Due.is(11, "part of a part", x.part(2, 30), 3);
        Due.is(10, "parted", x.fieldOf(2, 2), 30);
        Due.is(60, "fields", x.status(0), 5);
        Due.is(60, "STATE", x.status(15), 1);
    }

    private static void full() {
        DeedCourt x = new DeedCourt();
        for (int f = 0; f < 9; f++) {
            Due.is(9, "field", x.field(0, 0), f);
        }
        Due.is(11, "not two are free", x.part(0, 0), FULL);
        Due.is(10, "it isn't parted", x.fieldOf(0, 0), 0);
        Due.is(9, "the tenth", x.field(0, 0), 9);
        Due.is(9, "the eleventh", x.field(0, 0), FULL);
        Due.is(9, "the eleventh, bad", x.field(4, 0), BAD);
        Due.is(11, "none is free", x.part(9, 0), FULL);
        Due.is(60, "FULL", x.status(16), 3);
        DeedCourt y = Due.land(8);
        Due.is(11, "two are free", y.part(3, 7), 8);
        Due.is(60, "fields", y.status(0), 10);
        Due.is(11, "gone, and none free", y.part(3, 7), STATE);
    }
}
