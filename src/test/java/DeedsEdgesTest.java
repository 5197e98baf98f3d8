/** The boundaries that promises 12 to 18 name: THE TAPE, each TOKEN of a DEED, its FAULT, OLD WORDS, weights. */
public final class DeedsEdgesTest {
    private static final int NONE = Due.NONE;
    private static final int BAD = Due.BAD;
    private static final int FULL = Due.FULL;

    private DeedsEdgesTest() {
    }

    public static void main(String[] args) {
        feeds();
        tapeFull();
        wipes();
        fieldNumbers();
        second();
        years();
        weights();
        oldNumbers();
        bytes();
        words();
        letters();
        blanks();
        tooEarly();
        order();
        fullTapes();
        behindFaults();
        deedsFull();
        lets();
        oldWords();
        deedOf();
        drops();
        weighs();
        means();
        Due.end("DeedsEdgesTest");
    }

    /** "the n lowest bytes (1 .. 4) of v behind it, the highest of these first". */
    private static void feeds() {
        for (int n : new int[] {Integer.MIN_VALUE, -1, 0, 5, Integer.MAX_VALUE}) {
            DeedCourt x = new DeedCourt();
            Due.is(12, "feed of " + n, x.feed('a', n), BAD);
            Due.is(12, "nothing is fed", x.status(2), 0);
        }
        DeedCourt x = Due.land(2);
        Due.is(12, "one byte, the lowest", x.feed('?' << 8 | '0', 1), 1);
        Due.is(12, "two bytes", x.feed('?' << 16 | 'o' << 8 | 'v', 2), 3);
        Due.is(12, "three bytes", x.feed(0xFF << 24 | 'e' << 16 | 'r' << 8 | '1', 3), 6);
        Due.is(12, "four bytes", x.feed('y' << 24 | 'e' << 16 | 'a' << 8 | 'r', 4), 10);
        Due.is(12, "one more", x.feed(0x7FFFFF00 | '8', 1), 11);
        Due.is(14, "in this order", x.deed(), 0);
        Due.is(15, "the first FIELD", x.deedOf(0, 0), 0);
        Due.is(15, "the second", x.deedOf(0, 1), 1);
        Due.is(15, "the YEAR", x.deedOf(0, 2), 8);
        Due.is(15, "OVER", x.deedOf(0, 5), 4);
        x.feed('0', 1);
        x.feed(-1, 4);
        Due.is(14, "a byte that begins no TOKEN", x.deed(), -21);
        x.feed('0', 1);
        x.feed(0, 4);
        Due.is(14, "a byte that begins no TOKEN", x.deed(), -21);
    }

    /** "THE TAPE (bytes, 80 at most)". */
    private static void tapeFull() {
        for (int size = 76; size <= 80; size++) {
            for (int n = 1; n <= 4; n++) {
                DeedCourt x = tape(size);
                boolean fine = size + n <= 80;
                Due.is(12, "feed of " + n + " behind " + size, x.feed(0, n), fine ? size + n : FULL);
                Due.is(12, "THE TAPE's size", x.status(2), fine ? size + n : size);
                Due.is(60, "FULL", x.status(16), fine ? 0 : 1);
                Due.is(12, "a number that may not be, full or not", x.feed(0, 5), BAD);
                Due.is(13, "wipe: its size ahead", x.wipe(), fine ? size + n : size);
            }
        }
    }

    private static DeedCourt tape(int size) {
        DeedCourt x = new DeedCourt();
        while (x.status(2) < size) {
            x.feed(0, 1);
        }
        return x;
    }

    private static void wipes() {
        DeedCourt x = Due.land(2);
        Due.is(13, "wipe of the empty one", x.wipe(), 0);
        x.feed('9', 1);
        Due.is(13, "wipe of one byte", x.wipe(), 1);
        Due.is(13, "it is empty then", x.wipe(), 0);
        Due.is(14, "what was wiped isn't read", Due.deed(x, "0 apart 1"), 0);
        Due.is(13, "empty behind a DEED", x.wipe(), 0);
        Due.is(14, "a fault", Due.deed(x, "0 apart"), -27);
        Due.is(13, "empty behind a fault", x.wipe(), 0);
    }

    private static void read(int fields, String text, int due) {
        DeedCourt x = Due.land(fields);
        Due.is(14, "deed() of \"" + text + "\"", Due.deed(x, text), due);
        Due.is(14, "THE TAPE is empty then, either way", x.status(2), 0);
        Due.is(60, "a FAULT is BAD", x.status(12), due < 0 ? 1 : 0);
        Due.is(60, "DEEDS", x.status(1), due < 0 ? 0 : 1);
    }

    private static void fine(String text) {
        read(3, text, 0);
    }

    private static void fault(String text, int place) {
        read(3, text, -20 - place);
    }

    /** "FIELD: a NUMBER there is one of". */
    private static void fieldNumbers() {
        for (int fields = 2; fields <= 10; fields++) {
            int last = fields - 1;
            read(fields, last + "over0", 0);
            read(fields, "0over" + last, 0);
            read(fields, fields + "over0", -20);
            read(fields, "0over" + fields, -25);
        }
        read(0, "0over1", -20);
        read(1, "0over1", -25);
        read(1, "1over0", -20);
        read(10, "009over008", 0);
        read(10, "0009over8", -20);
        read(10, "9over0008", -25);
        read(10, "-1over8", -20);
        read(10, "999over8", -20);
        read(10, "9999999999over8", -20);
        read(10, "4294967296over8", -20);
    }

    /** "the second is another than the first". */
    private static void second() {
        fault("0 over 0", 7);
        fault("2 over 2", 7);
        fault("2over002", 5);
        fault("002 over 2", 9);
        fine("0 over 1");
        fine("2 over 1");
    }

    /** "year and a NUMBER (0 to 999; 0 without it)", "or of more than 3 digits". */
    private static void years() {
        int[] years = {0, 1, 998, 999};
        for (int year : years) {
            DeedCourt x = Due.land(2, "0 over 1 year " + year);
            Due.is(15, "YEAR", x.deedOf(0, 2), year);
        }
        Due.is(15, "0 without it", Due.land(2, "0 over 1").deedOf(0, 2), 0);
        Due.is(15, "0 without it", Due.land(2, "0 over 1 weight 5").deedOf(0, 2), 0);
        Due.is(15, "three digits", Due.land(2, "0 over 1 year 000").deedOf(0, 2), 0);
        Due.is(15, "three digits", Due.land(2, "0 over 1 year 090").deedOf(0, 2), 90);
        fault("0 over 1 year 1000", 14);
        fault("0 over 1 year 0000", 14);
        fault("0 over 1 year 0999", 14);
        fault("0 over 1 year -1", 14);
        fault("0 over 1 year 99999999999999999999", 14);
    }

    /** "weight and a NUMBER (1 to 99; 1), in this order". */
    private static void weights() {
        int[] weights = {1, 2, 98, 99};
        for (int weight : weights) {
            DeedCourt x = Due.land(2, "0 over 1 weight " + weight);
            Due.is(15, "weight", x.deedOf(0, 3), weight);
        }
        Due.is(15, "1 without it", Due.land(2, "0 over 1").deedOf(0, 3), 1);
        Due.is(15, "1 without it", Due.land(2, "0 over 1 year 5").deedOf(0, 3), 1);
        Due.is(15, "three digits", Due.land(2, "0 over 1 weight 099").deedOf(0, 3), 99);
        DeedCourt both = Due.land(2, "0 over 1 year 999 weight 99");
        Due.is(15, "both: YEAR", both.deedOf(0, 2), 999);
        Due.is(15, "both: weight", both.deedOf(0, 3), 99);
        fault("0 over 1 weight 0", 16);
        fault("0 over 1 weight 000", 16);
        fault("0 over 1 weight 100", 16);
        fault("0 over 1 weight 0001", 16);
        fault("0 over 1 year 5 weight 0", 23);
        fault("0 over 1 year 5 weight 100", 23);
        fault("0 over 1 weight 5 year 5", 18);
        fault("0 over 1 year 5 year 5", 16);
        fault("0 over 1 weight 5 weight 5", 18);
    }

    /** "old and a NUMBER (0 to 3)". */
    private static void oldNumbers() {
        fine("0 old 0 1");
        fine("0 old 3 1");
        fine("0 old 003 1");
        fine("0old3 1");
        fine("0 not old 0 or old 0 1");
        fault("0 old 4 1", 6);
        fault("0 old 0003 1", 6);
        fault("0 old3", 6);
        fault("0 old or 1", 6);
        fault("0 old 3 or old 4 1", 15);
        fault("0 old 31", 6);
    }

    /** "TOKENS, each as long as can be: WORDS (a .. z), NUMBERS (digits)", "a byte that begins none". */
    private static void bytes() {
        String others = "\0\t\n!/:;@AZ[`{|~\u007f\u0080\u00a0\u00ff";
        for (int i = 0; i < others.length(); i++) {
            char c = others.charAt(i);
            fault(c + "0 over 1", 0);
            fault("0" + c + "over 1", 1);
            fault("0 over" + c + "1", 6);
            fault("0 over 1" + c, 8);
            fault("0 over 1 year" + c + "3", 13);
            fault("0 over 1 year 3" + c, 15);
        }
        fault("0 Over 1", 2);
        fault("0 oVer 1", 2);
        fault("0 o ver 1", 2);
        fault("0 over 1 2", 9);
        fault("0 over 1 apart", 9);
        fault("0 over 1 Year 3", 9);
    }

    /** Each WORD is as long as can be, and none is another one's beginning or end. */
    private static void words() {
        String[] ones = {"apart", "touch", "over", "edge", "inside", "round", "holds", "same", "within", "old 2", "north",
            "east", "larger"};
        for (String one : ones) {
            fine("0 " + one + " 1");
            fine("0" + one + " 1");
            fault("0 z" + one + " 1", 2);
            fault("0 a" + one + " 1", 2);
            fault("0 " + one.substring(1) + " 1", 2);
            if (!one.equals("old 2")) {
                fine("0" + one + "1");
                fault("0 " + one + "z 1", 2);
                fault("0 " + one + "a 1", 2);
                fault("0 " + one.substring(0, one.length() - 1) + " 1", 2);
                fault("0 " + one + one + " 1", 2);
            }
        }
        fine("0not over or edge1year3weight4");
        fault("0notover1", 1);
        fault("0overoredge1", 1);
        fault("0 nota over 1", 2);
        fault("0 no over 1", 2);
        fault("0 over ora edge 1", 7);
        fault("0 over o edge 1", 7);
        fault("0 olda 1 1", 2);
        fault("0 over 1 yeara 3", 9);
        fault("0 over 1 yea 3", 9);
        fault("0 over 1 weighta 3", 9);
        fault("0 over 1 weigh 3", 9);
        fine("0over1year9weight9");
        fault("0over1year9weight9a", 18);
        fault("0over1year9weight9 9", 19);
    }

    /** A WORD of which one letter is another one is none of those that can stand there. */
    private static void letters() {
        String[][] words = {{"0 ", "apart", " 1"}, {"0 ", "touch", " 1"}, {"0 ", "over", " 1"}, {"0 ", "edge", " 1"},
            {"0 ", "inside", " 1"}, {"0 ", "round", " 1"}, {"0 ", "holds", " 1"}, {"0 ", "same", " 1"}, {"0 ", "within", " 1"},
            {"0 ", "north", " 1"}, {"0 ", "east", " 1"}, {"0 ", "larger", " 1"}, {"0 ", "not", " over 1"},
            {"0 over ", "or", " edge 1"}, {"0 ", "old", " 2 1"}, {"0 over 1 ", "year", " 3"}, {"0 over 1 ", "weight", " 3"}};
        for (String[] w : words) {
            fine(w[0] + w[1] + w[2]);
            for (int i = 0; i < w[1].length(); i++) {
                char right = w[1].charAt(i);
                // The letter ahead of it, the one behind it, the great one; 'x' is in none of them.
                for (char c : new char[] {(char) (right - 1), (char) (right + 1), (char) (right - 32), 'x'}) {
                    fault(w[0] + w[1].substring(0, i) + c + w[1].substring(i + 1) + w[2], w[0].length());
                }
            }
        }
    }

    /** "blanks (32) may stand between", ahead and behind, none or many. */
    private static void blanks() {
        fine("0over1");
        fine("   0   over   1   ");
        fine("0 over 1 ");
        fault("    ", 4);
        fault("  3 over 1", 2);
        fault("0 over  3", 8);
        fault("0 over 1 1  ", 9);
        fault("0 ov er 1", 2);
        fault("0 over 1 year 10 0", 17);
    }

    /** "THE TAPE's size, if it ends too early": behind each TOKEN behind which another must come. */
    private static void tooEarly() {
        String[] texts = {"", "0", "0 not", "0 old", "0 over", "0 over or", "0 over or old", "0 not over", "0 not over or",
            "0 old 3", "0 north", "0 east", "0 larger", "0 over 1 year", "0 over 1 weight", "0 over 1 year 3 weight"};
        for (String text : texts) {
            fault(text, text.length());
            fault(text + " ", text.length() + 1);
            fault("   " + text + "   ", text.length() + 6);
        }
        fine("0 over 1");
        fine("0 over 1 year 3");
        fine("0 over 1 weight 3");
    }

    /** What can't stand where it stands; the first one is the FAULT. */
    private static void order() {
        fault("over 0 1", 0);
        fault("year 3", 0);
        fault("0 1 over", 2);
        fault("0 year 3", 2);
        fault("0 or over 1", 2);
        fault("0 not or over 1", 6);
        fault("0 not 1", 6);
        fault("0 not not over 1", 6);
        fault("0 over not edge 1", 7);
        fault("0 over or not edge 1", 10);
        fault("0 over or or edge 1", 10);
        fault("0 over edge 1", 7);
        fault("0 over or 1", 10);
        fault("0 not north 1", 6);
        fault("0 not east 1", 6);
        fault("0 not larger 1", 6);
        fault("0 north or over 1", 8);
        fault("0 over or north 1", 10);
        fault("0 over or east 1", 10);
        fault("0 over or larger 1", 10);
        fault("0 north east 1", 8);
        fault("0 within or year 1", 12);
        fault("3 ? 3", 0);
        fault("0 ? 3", 2);
        fault("0 over 3 ?", 7);
        fault("0 over 1 year ? weight 0", 14);
    }

    /** A TAPE that is full is read to its last byte. */
    private static void fullTapes() {
        fine(wide("0 over", "1", 80));
        fine(wide("0 over 1 year", "999", 80));
        fine(wide("0 over 1", "", 80));
        fine("0 not apart or touch or over or within or round or holds or same 1 year 1weight1");
        fault(wide("0 over", "3", 80), 79);
        fault(wide("0 over 1", "1", 80), 79);
        fault(wide("0 over 1 year", "1000", 80), 76);
        fault(wide("", "", 80), 80);
        fault(wide("0 over", "", 80), 80);
        fault(wide("0 over 1", "year", 80), 80);
        fault(wide("0 over 1", "weight", 80), 80);
        fault(wide("0 over 1 year", "9", 79) + "?", 79);
        // Behind a full TAPE a shorter one is read to its own end alone.
        DeedCourt x = Due.land(2);
        Due.is(14, "a full one", Due.deed(x, wide("0 over", "1", 80)), 0);
        Due.is(14, "a shorter one", Due.deed(x, "0 over"), -26);
        Due.is(14, "an empty one", x.deed(), -20);
    }

    /** A DEED has nothing of what was read ahead of the FAULT of another one. */
    private static void behindFaults() {
        String[] faults = {"2 over 0 year 9 weight 9 ?", "0 not edge 0", "0 not old 3 or", "0 old 3 or same or old 0 0", "2 north 2",
            "0 larger 1 year 1000", "0 within 1 year 5 weight 0", "0 east 1 weight 7 year 3", "2", ""};
        int[] due = {1, 0, 0, 1, NONE, 2, 0};
        DeedCourt all = Due.land(3);
        for (String fault : faults) {
            DeedCourt x = Due.land(3);
            Due.is(14, "\"" + fault + "\" has a FAULT", Due.deed(x, fault) <= -20 ? 1 : 0, 1);
            Due.is(14, "the DEED behind it", Due.deed(x, "1 touch 0"), 0);
            x.mean(0, 3);
            x.mean(3, 3);
            for (int what = 0; what < due.length; what++) {
                Due.is(15, "behind \"" + fault + "\": deedOf(0, " + what + ")", x.deedOf(0, what), due[what]);
            }
            Due.deed(all, fault);
        }
        Due.is(60, "each FAULT is BAD", all.status(12), faults.length);
        Due.is(60, "none is a DEED", all.status(1), 0);
    }

    private static String wide(String ahead, String behind, int size) {
        return ahead + " ".repeat(size - ahead.length() - behind.length()) + behind;
    }

    /** "DEEDS have numbers, 0 on, 24 at most", "FULL (ahead of all; THE TAPE stays)". */
    private static void deedsFull() {
        DeedCourt x = Due.land(2);
        for (int d = 0; d < 24; d++) {
            Due.is(14, "DEED " + d, Due.deed(x, "0over1"), d);
            if (d == 22) {
                Due.is(14, "a fault takes no number", Due.deed(x, "0over0"), -25);
            }
        }
        Due.is(14, "the 25th", Due.deed(x, "0over1"), FULL);
        Due.is(14, "THE TAPE stays", x.status(2), 6);
        Due.is(14, "FULL ahead of a fault", Due.deed(x, "?"), FULL);
        Due.is(14, "THE TAPE stays", x.status(2), 7);
        Due.is(13, "wipe", x.wipe(), 7);
        Due.is(14, "FULL ahead of a fault", x.deed(), FULL);
        Due.is(60, "DEEDS", x.status(1), 24);
        Due.is(60, "FULL", x.status(16), 3);
        Due.is(60, "BAD: the fault alone", x.status(12), 1);
        Due.is(15, "the last one", x.deedOf(23, 5), 4);
        Due.is(15, "no 25th", x.deedOf(24, 5), BAD);
        x.drop(0, true);
        Due.is(14, "a DROPPED one has its number still", x.deed(), FULL);
    }

    /** "A DEED lets: the WAYS that are said, with not: the others"; "ORDERS let". */
    private static void lets() {
        for (int way = 0; way < 8; way++) {
            let("0 " + Due.WAYS[way] + " 1", 1 << way);
            let("0 not " + Due.WAYS[way] + " 1", 255 - (1 << way));
        }
        let("0 within 1", 24);
        let("0 not within 1", 231);
        let("0 apart or apart 1", 1);
        let("0 apart or touch or over or edge or inside or round or holds or same 1", 255);
        let("0 not apart or touch or over or edge or inside or round or holds or same 1", 0);
        let("0 within or edge or inside 1", 24);
        let("0 north 1", 1 + 2);
        let("0 east 1", 255 - 8 - 16 - 128);
        let("0 larger 1", 255 - 8 - 16 - 128);
    }

    private static void let(String text, int due) {
        DeedCourt x = Due.land(2, text);
        Due.is(15, "\"" + text + "\" lets", x.deedOf(0, 5), due);
        Due.is(22, "the SET by \"" + text + "\"", x.ways(0, 1, 0), due);
        if (due > 0) {
            Due.is(22, "the SET by \"" + text + "\", TURNED", x.ways(1, 0, 0), x.turned(due));
        } else {
            Due.is(22, "the SET by \"" + text + "\", TURNED", x.ways(1, 0, 0), 0);
        }
    }

    /** "if an OLD WORD that means nothing yet is said, all." */
    private static void oldWords() {
        for (int word = 0; word < 4; word++) {
            DeedCourt x = Due.land(2, "0 old " + word + " 1", "0 not old " + word + " 1", "0 edge or old " + word + " 1",
                "0 not within or old " + word + " 1");
            for (int d = 0; d < 4; d++) {
                Due.is(15, "it means nothing yet: all", x.deedOf(d, 5), 255);
            }
            for (int other = 0; other < 4; other++) {
                if (other != word) {
                    x.mean(other, 2);
                }
            }
            for (int d = 0; d < 4; d++) {
                Due.is(15, "another one is said", x.deedOf(d, 5), 255);
            }
            for (int way = 0; way < 8; way++) {
                x.mean(word, way);
                Due.is(15, "old", x.deedOf(0, 5), 1 << way);
                Due.is(15, "not old", x.deedOf(1, 5), 255 - (1 << way));
                Due.is(15, "edge or old", x.deedOf(2, 5), 8 | 1 << way);
                Due.is(15, "not within or old", x.deedOf(3, 5), 255 & ~(24 | 1 << way));
            }
            x.mean(word, NONE);
            for (int d = 0; d < 4; d++) {
                Due.is(15, "it means nothing any more: all", x.deedOf(d, 5), 255);
            }
        }
        DeedCourt all = Due.land(2, "0 old 0 or old 1 or old 2 or old 3 1", "0 not old 0 or old 1 or old 2 or old 3 1");
        for (int word = 3; word >= 0; word--) {
            Due.is(15, "one means nothing", all.deedOf(0, 5), 255);
            Due.is(15, "one means nothing", all.deedOf(1, 5), 255);
            all.mean(word, 2 * word);
        }
        Due.is(15, "each means one", all.deedOf(0, 5), 1 + 4 + 16 + 64);
        Due.is(15, "each means one", all.deedOf(1, 5), 2 + 8 + 32 + 128);
    }

    private static void deedOf() {
        DeedCourt x = Due.land(10, "9 north 8", "0 larger 9 year 999 weight 99");
        int[][] due = {{9, 8, 0, 1, 0, 3, 0}, {0, 9, 999, 99, 2, 103, 0}};
        for (int d = 0; d < 2; d++) {
            for (int what = 0; what < 7; what++) {
                Due.is(15, "deedOf(" + d + ", " + what + ")", x.deedOf(d, what), due[d][what]);
            }
            Due.is(15, "deedOf(" + d + ", 7)", x.deedOf(d, 7), BAD);
            Due.is(15, "deedOf(" + d + ", -1)", x.deedOf(d, -1), BAD);
        }
        Due.is(15, "no ORDER: NONE", Due.land(2, "0 over 1").deedOf(0, 4), NONE);
        Due.is(15, "EAST", Due.land(2, "0 east 1").deedOf(0, 4), 1);
        Due.is(15, "none behind the last", x.deedOf(2, 0), BAD);
        Due.is(15, "no DEEDS", new DeedCourt().deedOf(0, 0), BAD);
    }

    private static void drops() {
        DeedCourt x = Due.land(2, "0 over 1", "0 edge 1");
        Due.is(16, "it wasn't", x.drop(1, false), 0);
        Due.is(16, "it wasn't", x.drop(1, true), 0);
        Due.is(16, "it was", x.drop(1, true), 1);
        Due.is(16, "the first wasn't", x.drop(0, true), 0);
        Due.is(22, "all are DROPPED", x.ways(0, 1, 999), 255);
        Due.is(16, "it was", x.drop(1, false), 1);
        Due.is(16, "it wasn't", x.drop(1, false), 0);
        Due.is(22, "the last isn't any more", x.ways(0, 1, 0), 8);
        Due.is(16, "none behind the last", x.drop(2, true), BAD);
        Due.is(16, "no DEEDS", new DeedCourt().drop(0, true), BAD);
    }

    /** "The weight of a DEED becomes v (1 to 99): the one ahead." */
    private static void weighs() {
        DeedCourt x = Due.land(2, "0 over 1 weight 50");
        Due.is(17, "0", x.weigh(0, 0), BAD);
        Due.is(17, "100", x.weigh(0, 100), BAD);
        Due.is(15, "it stays", x.deedOf(0, 3), 50);
        Due.is(17, "1", x.weigh(0, 1), 50);
        Due.is(17, "99", x.weigh(0, 99), 1);
        Due.is(17, "99 again", x.weigh(0, 99), 99);
        Due.is(17, "none behind the last", x.weigh(1, 1), BAD);
    }

    /** "An OLD WORD means a WAY (NONE: nothing): the one ahead (NONE)." */
    private static void means() {
        for (int word : new int[] {0, 3}) {
            DeedCourt x = new DeedCourt();
            Due.is(18, "at first", x.mean(word, 0), NONE);
            Due.is(18, "the first WAY", x.mean(word, 7), 0);
            Due.is(18, "the last WAY", x.mean(word, 8), BAD);
            Due.is(18, "that is none", x.mean(word, -2), BAD);
            Due.is(18, "it stays", x.mean(word, NONE), 7);
            Due.is(18, "NONE", x.mean(word, NONE), NONE);
        }
        DeedCourt x = new DeedCourt();
        Due.is(18, "OLD WORD -1", x.mean(-1, 0), BAD);
        Due.is(18, "OLD WORD 4", x.mean(4, 0), BAD);
    }
}
