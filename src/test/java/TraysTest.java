/** Promises 1 to 6: a new object, status() and the TRAYS. */
public final class TraysTest {
    private static final int[] BAD_TRAYS = {-1, 4, Integer.MIN_VALUE, Integer.MAX_VALUE};
    private static final int MIN = Integer.MIN_VALUE;
    private static final int MAX = Integer.MAX_VALUE;

    public static void main(String[] args) {
        newObject();
        statusIsThatOfTheLatestCall();
        trayIsLaidOut();
        trayRefuses();
        writeCuts();
        writeAndReadRefuse();
        pourMovesNumbers();
        pourAsksInItsOrder();
        Due.end();
    }

    private static void newObject() {
        FairTables x = new FairTables();
        Due.is("status()", x.status(), 0);
        Due.is("upper()", x.upper(), 0);
        Due.is("lower()", x.lower(), 1);
        for (int tray = 0; tray < 4; tray++) {
            Due.none("read of a new object", x, x.read(tray, 0), 4);
        }
        Due.none("at(0, 0)", x, x.at(0, 0), 1);
        Due.none("meets(0, 0)", x, x.meets(0, 0), 1);
        Due.none("hears(0, 0)", x, x.hears(0, 0), 1);
        Due.none("has(0, 0, 0, 0, 0)", x, x.has(0, 0, 0, 0, 0), 1);
        Due.none("state(0, 0)", x, x.state(0, 0), 1);
        Due.not("end(0, 0)", x, x.end(0, 0), 1);
        Due.gives("best()", x, x.best(), 0);
        Due.gives("editor()", x, x.editor(), 0);
        Due.gives("book(false)", x, x.book(false), 0);
        // Minute 0 is not gone.
        Due.gives("offer at minute 0", x, x.offer(0, 0, 1, 1, 1, 0, 0, 0, 1), 0);
        Due.is("NONE", FairTables.NONE, -1);
    }

    private static void statusIsThatOfTheLatestCall() {
        FairTables x = new FairTables();
        Due.not("hours(0)", x, x.hours(0), 2);
        x.upper();
        x.lower();
        Due.is("status() behind upper() and lower()", x.status(), 2);
        Due.is("status() behind status()", x.status(), 2);
        Due.done("hours(3)", x, x.hours(3));
        Due.none("at(0, 0)", x, x.at(0, 0), 1);
        Due.gives("best()", x, x.best(), 0);
    }

    private static void trayIsLaidOut() {
        FairTables x = new FairTables();
        Due.done("tray(0, 3, 40)", x, x.tray(0, 3, 40));
        for (int place = 0; place < 40; place++) {
            Due.gives("read(0, " + place + ")", x, x.read(0, place), 0);
            Due.done("write", x, x.write(0, place, place + 1L));
        }
        Due.none("read(0, 40)", x, x.read(0, 40), 5);
        Due.none("read(1, 0)", x, x.read(1, 0), 4);
        Due.done("tray(0, 2, 7)", x, x.tray(0, 2, 7));
        for (int place = 0; place < 7; place++) {
            Due.gives("read of a tray laid anew", x, x.read(0, place), 0);
        }
        Due.none("read(0, 7)", x, x.read(0, 7), 5);
        Due.done("tray(0, 3, 40)", x, x.tray(0, 3, 40));
        Due.gives("read(0, 39)", x, x.read(0, 39), 0);
        Due.done("tray(3, 0, 0)", x, x.tray(3, 0, 0));
        Due.none("read(3, 0)", x, x.read(3, 0), 5);
    }

    private static void trayRefuses() {
        FairTables x = new FairTables();
        Due.done("tray(0, 0, 2)", x, x.tray(0, 0, 2));
        Due.done("write(0, 1, 9)", x, x.write(0, 1, 9));
        for (int bad : BAD_TRAYS) {
            Due.not("tray(" + bad + ", 0, 41)", x, x.tray(bad, 0, 41), 1);
            Due.not("tray(0, " + bad + ", 41)", x, x.tray(0, bad, 41), 1);
            Due.not("tray(0, " + bad + ", -1)", x, x.tray(0, bad, -1), 1);
        }
        Due.not("tray(0, 1, 41)", x, x.tray(0, 1, 41), 2);
        Due.not("tray(0, 1, MAX)", x, x.tray(0, 1, MAX), 2);
        Due.not("tray(0, 1, -1)", x, x.tray(0, 1, -1), 6);
        Due.not("tray(0, 1, MIN)", x, x.tray(0, 1, MIN), 6);
        Due.gives("read(0, 1) behind refused calls", x, x.read(0, 1), 9);
        Due.not("tray(1, 1, 41)", x, x.tray(1, 1, 41), 2);
        Due.none("read(1, 0)", x, x.read(1, 0), 4);
    }

    private static void writeCuts() {
        long[] numbers = {0, 1, -1, 127, 128, -128, -129, 255, 256, 300, 32_767, 32_768, -32_768, -32_769, 65_536,
            MAX, MAX + 1L, MIN, MIN - 1L, 1L << 32, Long.MAX_VALUE, Long.MIN_VALUE, 0x1234567890ABCDEFL};
        FairTables x = new FairTables();
        for (int sort = 0; sort < 4; sort++) {
            Due.done("tray", x, x.tray(sort, sort, 1));
        }
        for (long v : numbers) {
            for (int sort = 0; sort < 4; sort++) {
                Due.done("write", x, x.write(sort, 0, v));
            }
            Due.gives("8 bits of " + v, x, x.read(0, 0), (byte) v);
            Due.gives("16 bits of " + v, x, x.read(1, 0), (short) v);
            Due.gives("32 bits of " + v, x, x.read(2, 0), (int) v);
            Due.gives("64 bits of " + v, x, x.read(3, 0), v);
        }
    }

    private static void writeAndReadRefuse() {
        FairTables x = new FairTables();
        Due.done("tray(1, 2, 3)", x, x.tray(1, 2, 3));
        for (int bad : BAD_TRAYS) {
            Due.not("write(" + bad + ", 0, 1)", x, x.write(bad, 0, 1), 1);
            Due.none("read(" + bad + ", 0)", x, x.read(bad, 0), 1);
        }
        for (int place : new int[] {-1, 3, MIN, MAX}) {
            Due.not("write(0, " + place + ", 1)", x, x.write(0, place, 1), 4);
            Due.none("read(0, " + place + ")", x, x.read(0, place), 4);
            Due.not("write(1, " + place + ", 1)", x, x.write(1, place, 1), 5);
            Due.none("read(1, " + place + ")", x, x.read(1, place), 5);
        }
        Due.done("write(1, 2, -1)", x, x.write(1, 2, -1));
        // STATUS alone tells this -1 from NONE.
        Due.gives("read(1, 2)", x, x.read(1, 2), -1);
        Due.gives("read(1, 0)", x, x.read(1, 0), 0);
    }

    private static FairTables poured() {
        FairTables x = new FairTables();
        x.tray(0, 2, 5);
        x.tray(1, 2, 4);
        x.tray(2, 3, 4);
        for (int place = 0; place < 5; place++) {
            x.write(0, place, 10 + place);
        }
        return x;
    }

    private static void row(FairTables x, int tray, long... numbers) {
        for (int place = 0; place < numbers.length; place++) {
            Due.gives("read(" + tray + ", " + place + ")", x, x.read(tray, place), numbers[place]);
        }
    }

    private static void pourMovesNumbers() {
        FairTables x = poured();
        Due.done("pour(0, 1, 1, 0, 4)", x, x.pour(0, 1, 1, 0, 4));
        row(x, 0, 10, 11, 12, 13, 14);
        row(x, 1, 11, 12, 13, 14);
        // Onto itself, both ways: the numbers come as they were.
        Due.done("pour(0, 0, 0, 1, 4)", x, x.pour(0, 0, 0, 1, 4));
        row(x, 0, 10, 10, 11, 12, 13);
        Due.done("pour(0, 1, 0, 0, 4)", x, x.pour(0, 1, 0, 0, 4));
        row(x, 0, 10, 11, 12, 13, 13);
        Due.done("pour(0, 0, 0, 0, 5)", x, x.pour(0, 0, 0, 0, 5));
        row(x, 0, 10, 11, 12, 13, 13);
        // No numbers at all need no place.
        Due.done("pour(0, 5, 1, 4, 0)", x, x.pour(0, 5, 1, 4, 0));
        row(x, 1, 11, 12, 13, 14);
        Due.done("tray(3, 2, 0)", x, x.tray(3, 2, 0));
        Due.done("pour(3, 0, 3, 0, 0)", x, x.pour(3, 0, 3, 0, 0));
    }

    private static void pourAsksInItsOrder() {
        FairTables x = poured();
        for (int bad : BAD_TRAYS) {
            Due.not("pour from " + bad, x, x.pour(bad, 0, 3, 0, 1), 1);
            Due.not("pour to " + bad, x, x.pour(3, 0, bad, 0, 1), 1);
        }
        Due.not("pour(3, 9, 2, 9, -1)", x, x.pour(3, 9, 2, 9, -1), 4);
        Due.not("pour(2, 9, 3, 9, -1)", x, x.pour(2, 9, 3, 9, -1), 4);
        Due.not("pour(0, 9, 2, 9, -1)", x, x.pour(0, 9, 2, 9, -1), 11);
        Due.not("pour(0, 9, 1, 9, -1)", x, x.pour(0, 9, 1, 9, -1), 6);
        Due.not("pour(0, 0, 1, 0, MIN)", x, x.pour(0, 0, 1, 0, MIN), 6);
        Due.not("pour(0, -1, 1, 0, 1)", x, x.pour(0, -1, 1, 0, 1), 5);
        Due.not("pour(0, 0, 1, -1, 1)", x, x.pour(0, 0, 1, -1, 1), 5);
        Due.not("pour(0, 0, 1, 0, 5)", x, x.pour(0, 0, 1, 0, 5), 5);
        Due.not("pour(1, 0, 0, 0, 5)", x, x.pour(1, 0, 0, 0, 5), 5);
        Due.not("pour(0, 6, 1, 0, 0)", x, x.pour(0, 6, 1, 0, 0), 5);
        Due.not("pour(0, 0, 1, 5, 0)", x, x.pour(0, 0, 1, 5, 0), 5);
        Due.not("pour(0, 1, 1, 1, MAX)", x, x.pour(0, 1, 1, 1, MAX), 5);
        Due.not("pour(0, MAX, 1, MAX, MAX)", x, x.pour(0, MAX, 1, MAX, MAX), 5);
        Due.not("pour(0, MIN, 1, 0, 1)", x, x.pour(0, MIN, 1, 0, 1), 5);
        Due.not("pour(0, 3, 1, 3, 2)", x, x.pour(0, 3, 1, 3, 2), 5);
        row(x, 0, 10, 11, 12, 13, 14);
        row(x, 1, 0, 0, 0, 0);
    }
}
