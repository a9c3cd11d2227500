/** Fairs to begin a test with, and ways to fill them. */
final class Fairs {
    // Far above all that a fair has room for: a fair that never says that it is full is found, not waited for.
    private static final int MOST_TRIED = 99;

    private Fairs() {
    }

    /** So many editors, and books that are secret or not. */
    static FairTables withBooks(int editors, boolean... secrets) {
        FairTables x = new FairTables();
        for (int e = 0; e < editors; e++) {
            x.editor();
        }
        for (boolean secret : secrets) {
            x.book(secret);
        }
        return x;
    }

    static FairTables withHours(int agents, int editors, int hours) {
        FairTables x = withBooks(editors);
        for (int a = 0; a < agents; a++) {
            x.agent();
        }
        x.hours(hours);
        return x;
    }

    /**
     * A fair with something of everything: TRAYS 0 (10 of 64 bits), 1 and 2 (5 and 4 of 32), 3 MISSING; 3 agents
     * and 4 editors who all meet; BOOK 0 for all, 1 for editors 0 and 3, 2 for nobody; GRANTS 0 to 3, of which 1
     * is ended; OFFERS 0 TAKEN, 1 VOID, 2 ENDED, 3 to 5 OPEN; minute 10; an AUCTION that was topped; LEFT 1 by 3.
     */
    static FairTables rich() {
        FairTables x = withBooks(4, false, true, true);
        layTrays(x);
        for (int a = 0; a < 3; a++) {
            x.agent();
            for (int e = 0; e < 4; e++) {
                x.worth(a, e, 10 * a + e + 1);
            }
        }
        x.list(1, 0, true);
        x.list(1, 3, true);
        x.grant(0, 1, 3, 1, 1, 0, 9);
        x.grant(1, 2, 255, 1, 1, 0, 9);
        x.end(1, 5);
        x.grant(2, 3, 1, 1, 1, 0, 9_999);
        x.option(2, 2, 50, 60);
        makeOffers(x);
        x.left(0, 7, 1, 1, 5);
        x.auction(0, 10, 0, 10, 10);
        return x;
    }

    private static void layTrays(FairTables x) {
        x.tray(0, 3, 10);
        x.write(0, 0, 1_000_000);
        x.write(0, 1, 50);
        x.write(0, 2, 40);
        x.write(0, 9, -7);
        x.tray(1, 2, 5);
        x.write(1, 4, 14);
        x.tray(2, 2, 4);
        for (int place = 0; place < 4; place++) {
            x.write(1, place, 10 + place);
            x.write(2, place, 20 + place);
        }
    }

    private static void makeOffers(FairTables x) {
        x.offer(0, 1, 8, 4, 4, 0, 5, 2, 9);
        x.offer(0, 2, 8, 4, 12, 5, 6, 2, 90);
        x.offer(0, 3, 16, 4, 4, 0, 5, 2, 5);
        x.take(0, 3);
        x.offer(0, 2, 32, 4, 4, 0, 5, 10, 40);
        x.offer(1, 0, 32, 4, 4, 0, 5, 10, 40);
        x.offer(0, 0, 64, 4, 4, 0, 5, 10, 100_000);
    }

    /** One more of something; whether there was room for it. */
    interface OneMore {
        boolean on(FairTables x, int tried);
    }

    /** How many more there was room for. */
    static int fill(FairTables x, OneMore one) {
        int many = 0;
        while (many < MOST_TRIED && one.on(x, many)) {
            many++;
        }
        return many;
    }

    /** All GRANTS that can still be made, each of a day of its own in a CELL of book 2 that nothing else uses. */
    static void fillGrants(FairTables x) {
        fill(x, (y, day) -> y.grant(2, 0, 128, 8, 8, day, day) >= 0);
    }

    static void fillOptions(FairTables x) {
        fill(x, (y, i) -> y.option(1, 3, 70, 70));
    }

    /** All OFFERS that can still be made, at minute 10. */
    static void fillOffers(FairTables x) {
        fill(x, (y, i) -> y.offer(1, 0, 128, 8, 8, 0, 0, 10, 11) >= 0);
    }

    static void fillAgents(FairTables x) {
        fill(x, (y, i) -> y.agent() >= 0);
    }

    static void fillEditors(FairTables x) {
        fill(x, (y, i) -> y.editor() >= 0);
    }

    static void fillBooks(FairTables x) {
        fill(x, (y, i) -> y.book(false) >= 0);
    }
}
