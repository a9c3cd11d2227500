/** Promises 1 to 6: a new object, status() and the TRAYS. */
public final class TraysTest {
    private static final int[] BAD_TRAYS = {-1, 4, Integer.MIN_VALUE, Integer.MAX_VALUE};
    private static final int MIN = Integer.MIN_VALUE;
    private static final int MAX = Integer.MAX_VALUE;

    public static void main(String[] args) {
        newObject();
        newObjectHasNobody();
        statusIsThatOfTheLatestCall();
        trayIsLaidOut();
        trayIsLaidAnew();
        trayRefuses();
        writeCuts();
        writeCutsAtTheEdges();
        writeAndReadRefuse();
        pourMovesNumbers();
        pourOfAllPlaces();
        pourOfEachSort();
        pourToTheLastPlace();
        pourAsksInItsOrder();
        Due.end();
    }

    private static void newObject() {
        FairTables x = new FairTables();
        Due.is("status()", x.status(), 0);
        Due.is("upper()", x.upper(), 0);
        Due.is("lower()", x.lower(), 1);
        for (int tray = 0; tray < 4; tray++) {
            Due.none("read of a new object", x, x.read(tray, 0), 4);
        }
        Due.none("at(0, 0)", x, x.at(0, 0), 1);
        Due.none("meets(0, 0)", x, x.meets(0, 0), 1);
        Due.none("hears(0, 0)", x, x.hears(0, 0), 1);
        Due.none("has(0, 0, 0, 0, 0)", x, x.has(0, 0, 0, 0, 0), 1);
        Due.none("state(0, 0)", x, x.state(0, 0), 1);
        Due.not("end(0, 0)", x, x.end(0, 0), 1);
        Due.gives("best()", x, x.best(), 0);
        Due.gives("editor()", x, x.editor(), 0);
        Due.gives("book(false)", x, x.book(false), 0);
        // Minute 0 is not gone.
        Due.gives("offer at minute 0", x, x.offer(0, 0, 1, 1, 1, 0, 0, 0, 1), 0);
        Due.is("NONE", FairTables.NONE, -1);
    }

    /** "TRAYS are MISSING, nobody there, no BOOKS; minute 0; the FRACTION 0 by 1; STATUS 0." */
    private static void newObjectHasNobody() {
        FairTables x = new FairTables();
        Due.not("worth(0, 0, 1)", x, x.worth(0, 0, 1), 1);
        Due.gives("agent()", x, x.agent(), 0);
        Due.not("worth(0, 0, 1) without an editor", x, x.worth(0, 0, 1), 1);
        Due.gives("editor()", x, x.editor(), 0);
        Due.gives("best() without a worth", x, x.best(), 0);
        Due.none("meets(0, 0) without a worth", x, x.meets(0, 0), 9);
        Due.not("list(0, 0, true)", x, x.list(0, 0, true), 1);
        Due.gives("hears(0, 0)", x, x.hears(0, 0), 0);
        Due.none("grant of book 0", x, x.grant(0, 0, 1, 1, 1, 0, 0), 1);
        Due.not("left of book 0", x, x.left(0, 1, 1, 1, 0), 1);
        Due.is("upper() of what was never told", x.upper(), 0);
        Due.is("lower() of what was never told", x.lower(), 1);
        Due.not("option of book 0", x, x.option(0, 0, 0, 0), 1);
        Due.none("may of book 0", x, x.may(0, 0, 1, 1, 1, 0, 0, 0), 1);
        Due.none("offer of book 0", x, x.offer(0, 0, 1, 1, 1, 0, 0, 0, 1), 1);
        Due.none("take(0, 0)", x, x.take(0, 0), 1);
        for (int tray = 0; tray < 4; tray++) {
            Due.not("write to a missing tray", x, x.write(tray, 0, 1), 4);
            Due.not("pour of a missing tray", x, x.pour(tray, 0, tray, 0, 0), 4);
            Due.none("auction with a missing tray", x, x.auction(tray, 0, -1, 0, 1), 4);
        }
        Due.none("sold(0)", x, x.sold(0), 9);
        Due.gives("book(true)", x, x.book(true), 0);
        Due.gives("hears of a list with nobody on it", x, x.hears(0, 0), 0);
        Due.gives("the first grant", x, x.grant(0, 0, 1, 1, 1, 0, 0), 0);
    }

    private static void statusIsThatOfTheLatestCall() {
        FairTables x = new FairTables();
        Due.not("hours(0)", x, x.hours(0), 2);
        x.upper();
        x.lower();
        Due.is("status() behind upper() and lower()", x.status(), 2);
        Due.is("status() behind status()", x.status(), 2);
        Due.done("hours(3)", x, x.hours(3));
        Due.none("at(0, 0)", x, x.at(0, 0), 1);
        Due.gives("best()", x, x.best(), 0);
    }

    private static void trayIsLaidOut() {
        FairTables x = new FairTables();
        Due.done("tray(0, 3, 40)", x, x.tray(0, 3, 40));
        for (int place = 0; place < 40; place++) {
            Due.gives("read(0, " + place + ")", x, x.read(0, place), 0);
            Due.done("write", x, x.write(0, place, place + 1L));
        }
        Due.none("read(0, 40)", x, x.read(0, 40), 5);
        Due.none("read(1, 0)", x, x.read(1, 0), 4);
        Due.done("tray(0, 2, 7)", x, x.tray(0, 2, 7));
        for (int place = 0; place < 7; place++) {
            Due.gives("read of a tray laid anew", x, x.read(0, place), 0);
        }
        Due.none("read(0, 7)", x, x.read(0, 7), 5);
        Due.done("tray(0, 3, 40)", x, x.tray(0, 3, 40));
        Due.gives("read(0, 39)", x, x.read(0, 39), 0);
        Due.done("tray(3, 0, 0)", x, x.tray(3, 0, 0));
        Due.none("read(3, 0)", x, x.read(3, 0), 5);
    }

    /** "A TRAY is a row of so many numbers .., all 0", whatever it was. */
    private static void trayIsLaidAnew() {
        FairTables x = new FairTables();
        for (int sort = 0; sort < 4; sort++) {
            Due.done("tray(2, sort, 3)", x, x.tray(2, sort, 3));
            row(x, 2, 0, 0, 0);
            for (int place = 0; place < 3; place++) {
                Due.done("write", x, x.write(2, place, -1));
            }
            Due.done("the same tray once more", x, x.tray(2, sort, 3));
            row(x, 2, 0, 0, 0);
            Due.done("write(2, 2, -1)", x, x.write(2, 2, -1));
            Due.none("read(2, 3)", x, x.read(2, 3), 5);
        }
        // The new sort cuts, not the one that the tray had.
        Due.done("write(2, 0, 300)", x, x.write(2, 0, 300));
        Due.gives("300 in 64 bits", x, x.read(2, 0), 300);
        Due.done("tray(2, 0, 1)", x, x.tray(2, 0, 1));
        Due.done("write(2, 0, 300)", x, x.write(2, 0, 300));
        Due.gives("300 in 8 bits", x, x.read(2, 0), 44);
        // None at all, and one.
        Due.none("read(2, 1) of one number", x, x.read(2, 1), 5);
        Due.done("tray(2, 0, 0)", x, x.tray(2, 0, 0));
        Due.none("read(2, 0) of no numbers", x, x.read(2, 0), 5);
        Due.not("write(2, 0, 1) to no numbers", x, x.write(2, 0, 1), 5);
        // It is no more MISSING, though it has no places.
        Due.done("pour of no numbers", x, x.pour(2, 0, 2, 0, 0));
        Due.not("pour of one number", x, x.pour(2, 0, 2, 0, 1), 5);
    }

    private static void trayRefuses() {
        FairTables x = new FairTables();
        Due.done("tray(0, 0, 2)", x, x.tray(0, 0, 2));
        Due.done("write(0, 1, 9)", x, x.write(0, 1, 9));
        for (int bad : BAD_TRAYS) {
            Due.not("tray(" + bad + ", 0, 41)", x, x.tray(bad, 0, 41), 1);
            Due.not("tray(0, " + bad + ", 41)", x, x.tray(0, bad, 41), 1);
            Due.not("tray(0, " + bad + ", -1)", x, x.tray(0, bad, -1), 1);
        }
        Due.not("tray(0, 1, 41)", x, x.tray(0, 1, 41), 2);
        Due.not("tray(0, 1, MAX)", x, x.tray(0, 1, MAX), 2);
        Due.not("tray(0, 1, -1)", x, x.tray(0, 1, -1), 6);
        Due.not("tray(0, 1, MIN)", x, x.tray(0, 1, MIN), 6);
        Due.gives("read(0, 1) behind refused calls", x, x.read(0, 1), 9);
        Due.not("tray(1, 1, 41)", x, x.tray(1, 1, 41), 2);
        Due.none("read(1, 0)", x, x.read(1, 0), 4);
    }

    private static void writeCuts() {
        long[] numbers = {0, 1, -1, 127, 128, -128, -129, 255, 256, 300, 32_767, 32_768, -32_768, -32_769, 65_536,
            MAX, MAX + 1L, MIN, MIN - 1L, 1L << 32, Long.MAX_VALUE, Long.MIN_VALUE, 0x1234567890ABCDEFL};
        FairTables x = new FairTables();
        for (int sort = 0; sort < 4; sort++) {
            Due.done("tray", x, x.tray(sort, sort, 1));
        }
        for (long v : numbers) {
            for (int sort = 0; sort < 4; sort++) {
                Due.done("write", x, x.write(sort, 0, v));
            }
            Due.gives("8 bits of " + v, x, x.read(0, 0), (byte) v);
            Due.gives("16 bits of " + v, x, x.read(1, 0), (short) v);
            Due.gives("32 bits of " + v, x, x.read(2, 0), (int) v);
            Due.gives("64 bits of " + v, x, x.read(3, 0), v);
        }
    }

    /** "numbers of 8 bits (sort 0), 16 (1), 32 (2) or 64 (3), with sign; what is written is cut to these" */
    private static void writeCutsAtTheEdges() {
        cut(0, 127, 127);
        cut(0, 128, -128);
        cut(0, -128, -128);
        cut(0, -129, 127);
        cut(0, 255, -1);
        cut(0, 256, 0);
        cut(1, 32_767, 32_767);
        cut(1, 32_768, -32_768);
        cut(1, -32_768, -32_768);
        cut(1, -32_769, 32_767);
        cut(1, 65_535, -1);
        cut(1, 65_536, 0);
        cut(2, 2_147_483_647L, 2_147_483_647L);
        cut(2, 2_147_483_648L, -2_147_483_648L);
        cut(2, -2_147_483_648L, -2_147_483_648L);
        cut(2, -2_147_483_649L, 2_147_483_647L);
        cut(2, 4_294_967_295L, -1);
        cut(2, 4_294_967_296L, 0);
        cut(3, 9_223_372_036_854_775_807L, 9_223_372_036_854_775_807L);
        cut(3, -9_223_372_036_854_775_808L, -9_223_372_036_854_775_808L);
    }

    private static void cut(int sort, long v, long want) {
        FairTables x = new FairTables();
        x.tray(1, sort, 40);
        for (int place : new int[] {0, 39}) {
            Due.done("write of " + v, x, x.write(1, place, v));
            Due.gives(v + " in sort " + sort, x, x.read(1, place), want);
        }
        Due.gives("the place beside it", x, x.read(1, 1), 0);
        Due.gives("the place beside it", x, x.read(1, 38), 0);
    }

    private static void writeAndReadRefuse() {
        FairTables x = new FairTables();
        Due.done("tray(1, 2, 3)", x, x.tray(1, 2, 3));
        for (int bad : BAD_TRAYS) {
            Due.not("write(" + bad + ", 0, 1)", x, x.write(bad, 0, 1), 1);
            Due.none("read(" + bad + ", 0)", x, x.read(bad, 0), 1);
        }
        for (int place : new int[] {-1, 3, MIN, MAX}) {
            Due.not("write(0, " + place + ", 1)", x, x.write(0, place, 1), 4);
            Due.none("read(0, " + place + ")", x, x.read(0, place), 4);
            Due.not("write(1, " + place + ", 1)", x, x.write(1, place, 1), 5);
            Due.none("read(1, " + place + ")", x, x.read(1, place), 5);
        }
        Due.done("write(1, 2, -1)", x, x.write(1, 2, -1));
        // STATUS alone tells this -1 from NONE.
        Due.gives("read(1, 2)", x, x.read(1, 2), -1);
        Due.gives("read(1, 0)", x, x.read(1, 0), 0);
    }

    private static FairTables poured() {
        FairTables x = new FairTables();
        x.tray(0, 2, 5);
        x.tray(1, 2, 4);
        x.tray(2, 3, 4);
        for (int place = 0; place < 5; place++) {
            x.write(0, place, 10 + place);
        }
        return x;
    }

    private static void row(FairTables x, int tray, long... numbers) {
        for (int place = 0; place < numbers.length; place++) {
            Due.gives("read(" + tray + ", " + place + ")", x, x.read(tray, place), numbers[place]);
        }
    }

    private static void pourMovesNumbers() {
        FairTables x = poured();
        Due.done("pour(0, 1, 1, 0, 4)", x, x.pour(0, 1, 1, 0, 4));
        row(x, 0, 10, 11, 12, 13, 14);
        row(x, 1, 11, 12, 13, 14);
        // Onto itself, both ways: the numbers come as they were.
        Due.done("pour(0, 0, 0, 1, 4)", x, x.pour(0, 0, 0, 1, 4));
        row(x, 0, 10, 10, 11, 12, 13);
        Due.done("pour(0, 1, 0, 0, 4)", x, x.pour(0, 1, 0, 0, 4));
        row(x, 0, 10, 11, 12, 13, 13);
        Due.done("pour(0, 0, 0, 0, 5)", x, x.pour(0, 0, 0, 0, 5));
        row(x, 0, 10, 11, 12, 13, 13);
        // No numbers at all need no place.
        Due.done("pour(0, 5, 1, 4, 0)", x, x.pour(0, 5, 1, 4, 0));
        row(x, 1, 11, 12, 13, 14);
        Due.done("tray(3, 2, 0)", x, x.tray(3, 2, 0));
        Due.done("pour(3, 0, 3, 0, 0)", x, x.pour(3, 0, 3, 0, 0));
    }

    /** Forty places of a tray onto itself, by one place up and down, and onto another. */
    private static void pourOfAllPlaces() {
        FairTables x = new FairTables();
        x.tray(0, 1, 40);
        x.tray(3, 1, 40);
        for (int place = 0; place < 40; place++) {
            x.write(0, place, 100 + place);
        }
        Due.done("pour(0, 0, 3, 0, 40)", x, x.pour(0, 0, 3, 0, 40));
        Due.not("pour(0, 0, 3, 0, 41)", x, x.pour(0, 0, 3, 0, 41), 5);
        Due.not("pour(0, 1, 0, 0, 40)", x, x.pour(0, 1, 0, 0, 40), 5);
        Due.not("pour(0, 0, 0, 1, 40)", x, x.pour(0, 0, 0, 1, 40), 5);
        Due.done("pour(0, 0, 0, 1, 39)", x, x.pour(0, 0, 0, 1, 39));
        Due.done("pour(3, 1, 3, 0, 39)", x, x.pour(3, 1, 3, 0, 39));
        for (int place = 0; place < 40; place++) {
            Due.gives("up by one", x, x.read(0, place), place == 0 ? 100 : 99 + place);
            Due.gives("down by one", x, x.read(3, place), place == 39 ? 139 : 101 + place);
        }
    }

    /** "come .. as they were": of each sort, also below 0; unlike sorts don't mix. */
    private static void pourOfEachSort() {
        long[] least = {-128, -32_768, MIN, Long.MIN_VALUE};
        for (int sort = 0; sort < 4; sort++) {
            FairTables x = new FairTables();
            x.tray(0, sort, 2);
            x.tray(1, sort, 2);
            x.write(0, 0, least[sort]);
            x.write(0, 1, least[sort] - 1);
            Due.done("pour(0, 0, 1, 0, 2)", x, x.pour(0, 0, 1, 0, 2));
            row(x, 1, least[sort], -1 - least[sort]);
            row(x, 0, least[sort], -1 - least[sort]);
            for (int other = 0; other < 4; other++) {
                x.tray(2, other, 2);
                boolean alike = other == sort;
                Due.is("pour to sort " + other, x.pour(0, 0, 2, 0, 2), alike);
                Due.is("status()", x.status(), alike ? 0 : 11);
                Due.is("pour from sort " + other, x.pour(2, 0, 0, 0, 2), alike);
                Due.is("status()", x.status(), alike ? 0 : 11);
                // Unlike sorts are unlike for no numbers, too.
                Due.is("pour of none to sort " + other, x.pour(0, 0, 2, 0, 0), alike);
            }
        }
    }

    private static void pourToTheLastPlace() {
        FairTables x = poured();
        Due.done("pour(0, 4, 1, 3, 1)", x, x.pour(0, 4, 1, 3, 1));
        row(x, 1, 0, 0, 0, 14);
        Due.not("pour(0, 5, 1, 3, 1)", x, x.pour(0, 5, 1, 3, 1), 5);
        Due.not("pour(0, 4, 1, 4, 1)", x, x.pour(0, 4, 1, 4, 1), 5);
        Due.done("pour(0, 0, 1, 0, 1)", x, x.pour(0, 0, 1, 0, 1));
        row(x, 1, 10, 0, 0, 14);
        Due.not("pour(0, -1, 1, -1, 0)", x, x.pour(0, -1, 1, 0, 0), 5);
        Due.not("pour(0, 0, 1, -1, 0)", x, x.pour(0, 0, 1, -1, 0), 5);
    }

    private static void pourAsksInItsOrder() {
        FairTables x = poured();
        for (int bad : BAD_TRAYS) {
            Due.not("pour from " + bad, x, x.pour(bad, 0, 3, 0, 1), 1);
            Due.not("pour to " + bad, x, x.pour(3, 0, bad, 0, 1), 1);
        }
        Due.not("pour(3, 9, 2, 9, -1)", x, x.pour(3, 9, 2, 9, -1), 4);
        Due.not("pour(2, 9, 3, 9, -1)", x, x.pour(2, 9, 3, 9, -1), 4);
        Due.not("pour(0, 9, 2, 9, -1)", x, x.pour(0, 9, 2, 9, -1), 11);
        Due.not("pour(0, 9, 1, 9, -1)", x, x.pour(0, 9, 1, 9, -1), 6);
        Due.not("pour(0, 0, 1, 0, MIN)", x, x.pour(0, 0, 1, 0, MIN), 6);
        Due.not("pour(0, -1, 1, 0, 1)", x, x.pour(0, -1, 1, 0, 1), 5);
        Due.not("pour(0, 0, 1, -1, 1)", x, x.pour(0, 0, 1, -1, 1), 5);
        Due.not("pour(0, 0, 1, 0, 5)", x, x.pour(0, 0, 1, 0, 5), 5);
        Due.not("pour(1, 0, 0, 0, 5)", x, x.pour(1, 0, 0, 0, 5), 5);
        Due.not("pour(0, 6, 1, 0, 0)", x, x.pour(0, 6, 1, 0, 0), 5);
        Due.not("pour(0, 0, 1, 5, 0)", x, x.pour(0, 0, 1, 5, 0), 5);
        Due.not("pour(0, 1, 1, 1, MAX)", x, x.pour(0, 1, 1, 1, MAX), 5);
        Due.not("pour(0, MAX, 1, MAX, MAX)", x, x.pour(0, MAX, 1, MAX, MAX), 5);
        Due.not("pour(0, MIN, 1, 0, 1)", x, x.pour(0, MIN, 1, 0, 1), 5);
        Due.not("pour(0, 3, 1, 3, 2)", x, x.pour(0, 3, 1, 3, 2), 5);
        row(x, 0, 10, 11, 12, 13, 14);
        row(x, 1, 0, 0, 0, 0);
    }
}
