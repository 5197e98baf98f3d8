/**
 * Lands of which the SEARCH comes to its end about the 20,000th CHOICE (they were looked for with another limit, and
 * PlainCourt answers the same): all have so many FIELDS, and DEEDS of the year 0.
 */
final class Late {
    private Late() {
    }

    /** FOUND with the 19,999th CHOICE. */
    static DeedCourt found19999() {
        return Due.landBy(6, "0 over or holds 2, 1 over or edge or inside or round 2, 0 not same 3, 2 not same 3, "
            + "0 not inside or holds or same 4, 1 not edge 4, 2 inside or holds 4, 3 not edge or round 4, "
            + "0 inside or holds or same 5, 1 not over or round or same 5, 2 edge or round 5, 4 edge or round 5");
    }

    /** FOUND with the 20,000th. */
    static DeedCourt found20000() {
        return Due.landBy(8, "0 not same 1, 0 not apart or touch or over 3, 2 not round or same 3, 1 not edge or round 4, "
            + "3 edge or round 4, 0 apart or edge or inside or holds 5, 3 apart or inside or holds 5, "
            + "4 edge or round or same 5, 1 not edge or round 6, 2 not same 6, 3 edge or round 6, 5 not round or same 6, "
            + "0 not apart or over or round 7, 1 edge 7, 3 apart or over or edge or same 7, 4 inside or holds 7, "
            + "5 edge or round 7");
    }

    /** It would be FOUND with the 20,001st: SPENT. */
    static DeedCourt found20001() {
        return Due.landBy(7, "0 over or holds 1, 0 not edge or inside or same 2, 1 not edge or inside or same 2, 1 not round 3, "
            + "1 inside or holds 4, 2 not touch 4, 3 not edge or round or same 4, 0 inside or holds or same 5, "
            + "1 edge or round 5, 2 not edge 5, 4 edge or round 5, 0 touch or edge or round 6, 1 not over 6, "
            + "2 touch or edge or inside or holds 6, 3 not touch or same 6, 4 apart or edge or round 6, 5 inside or holds 6");
    }

    /** It ends with the 20,000th. */
    static DeedCourt ended20000() {
        return Due.landBy(8, "2 apart or inside or holds 4, 1 inside or holds or same 5, 2 edge or inside or round 5, "
            + "3 not edge 5, 4 touch or edge or round 5, 0 not edge or inside 6, 1 over or edge 6, 2 touch or edge or round 6, "
            + "3 not touch or round or same 6, 4 edge or round or same 6, 5 apart or inside or holds 6, "
            + "1 touch or over or holds 7, 2 touch or inside or holds 7, 3 not apart or edge or same 7, "
            + "4 touch or inside or holds 7, 5 not edge or holds 7, 6 over or edge 7");
    }

    /** It would end with the 20,001st: SPENT. */
    static DeedCourt ended20001() {
        return Due.landBy(8, "0 not same 2, 1 apart or edge or round 2, 1 not apart or touch or same 3, "
            + "1 not apart or over or round 4, 3 not touch 4, 0 not round 5, 1 touch or inside 5, 2 over or inside or holds 5, "
            + "4 inside or holds 5, 0 not over or round 6, 2 not edge 6, 4 not apart or round 6, 5 not apart 6, "
            + "1 edge or holds or same 7, 2 apart 7, 3 over or inside or holds 7, 4 apart or round or same 7, "
            + "5 apart or edge or round or same 7, 6 apart or inside or round or same 7");
    }

    /** 131 TELLINGS; the SEARCH that goes on behind each one ends with the 20,000th. */
    static DeedCourt all20000() {
        return Due.landBy(7, "0 not same 1, 0 not edge or inside or round 2, 1 edge or round 2, 0 apart or over or edge or round 3, "
            + "1 not touch or over 3, 2 not round 3, 0 apart or touch or over 4, 1 touch or over or inside or same 4, "
            + "3 apart or inside or holds 4, 0 apart or edge or round 5, 1 apart or inside or holds 5, 2 inside or holds 5, "
            + "3 not over or same 5, 4 not over or round 5, 0 inside or holds 6, 1 not touch or over or round 6, "
            + "2 touch or edge or round 6, 5 edge or round 6");
    }

    /** 439 TELLINGS; the SEARCH that goes on behind each one would end with the 20,001st: SPENT behind the last. */
    static DeedCourt all20001() {
        return Due.landBy(7, "0 not edge 1, 0 over or holds 2, 1 edge or round or holds or same 2, "
            + "0 apart or edge or round or same 3, 1 not inside or holds 3, 0 not touch or holds 4, "
            + "1 touch or inside or holds or same 4, 2 not edge 4, 3 apart or inside or holds 4, 0 touch or edge or round 5, "
            + "1 apart or inside or holds or same 5, 2 inside or holds or same 5, 3 not round 5, "
            + "4 apart or touch or inside or same 5, 0 inside or holds 6, 1 not round 6, 2 edge or round or same 6, "
            + "5 edge or round 6");
    }

    /** The 399th TELLING is FOUND with the 20,000th, the next one would be with the 20,001st: SPENT ahead of that. */
    static DeedCourt next20001() {
        return Due.landBy(8, "0 not touch or holds 1, 0 not same 2, 1 edge or round or same 2, 1 inside or holds or same 3, "
            + "2 not edge or inside 3, 0 not apart or inside or round 4, 1 not touch or edge or inside 4, "
            + "0 apart or edge or round or same 5, 1 inside or holds or same 5, 3 not touch or edge 5, 4 not apart 5, "
            + "0 not inside 6, 1 edge or round or same 6, 3 not touch or same 6, 5 apart or inside or holds 6, "
            + "0 inside or holds 7, 1 not over or inside or holds 7, 4 inside or holds or same 7, 5 edge or round 7");
    }

    /** The first TELLING is FOUND with the 20,000th; with some WAYS of 0 to 4 a SEARCH is SPENT, with others FOUND. */
    static DeedCourt someSpent() {
        return Due.landBy(8, "0 over or inside or holds 1, 1 edge or holds 2, 0 not same 3, 1 over or inside or holds 3, "
            + "0 not apart or holds 4, 2 apart or inside or holds 4, 0 not apart or round 5, 1 not inside 5, "
            + "2 touch or inside or holds 5, 3 not edge or inside or round 5, 4 apart or touch or inside or holds 5, "
            + "1 inside or holds 6, 2 edge or inside or round or holds 6, 4 inside or holds 6, 5 touch or edge or round 6, "
            + "0 touch or inside or same 7, 1 edge or round 7, 4 edge or round 7, 5 inside or holds 7, "
            + "6 apart or edge or round or same 7");
    }

    /** Seven DEEDS with which it CAN be; without the one that is said at a place (0 to 6) the SEARCH is SPENT. */
    static DeedCourt fewDeeds(int place) {
        String[] others = {"0 not inside 5", "2 inside or holds 5", "3 inside or round or same 5", "0 inside or holds 6",
            "2 edge or round 6", "5 edge or round 6"};
        String[] deeds = new String[others.length + 1];
        for (int d = 0; d < deeds.length; d++) {
            deeds[d] = d == place ? "0 over 3" : others[d < place ? d : d - 1];
        }
        return Due.land(7, deeds);
    }
}
