/** Four fields of which no two deeds quarrel by shrinking, but that can't be: a search must try all. */
final class Hard {
    private Hard() {
    }

    /** A land of so many fields without deeds, and four more with them; far behind the free ones a search is spent. */
    static DeedCourt land(int free) {
        int a = free;
        int b = free + 1;
        int c = free + 2;
        int d = free + 3;
        return Due.land(free + 4,
            a + " touch or edge or round " + b,
            a + " apart or inside or holds " + c,
            b + " edge or round or same " + c,
            a + " edge or round or same " + d,
            b + " inside or holds " + d,
            c + " touch or edge or round " + d);
    }
}
