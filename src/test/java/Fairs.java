/** Fairs to begin a test with. */
final class Fairs {
    private Fairs() {
    }

    /** So many editors, and books that are secret or not. */
    static FairTables withBooks(int editors, boolean... secrets) {
        FairTables x = new FairTables();
        for (int e = 0; e < editors; e++) {
            x.editor();
        }
        for (boolean secret : secrets) {
            x.book(secret);
        }
        return x;
    }

    static FairTables withHours(int agents, int editors, int hours) {
        FairTables x = withBooks(editors);
        for (int a = 0; a < agents; a++) {
            x.agent();
        }
        x.hours(hours);
        return x;
    }
}
