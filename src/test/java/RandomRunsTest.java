import java.util.Random;

/** Runs of 512 calls, the same ones each time, on an object and on the plain model: all answers are alike. */
public final class RandomRunsTest {
    private static final int CALLS = 512;
    private static final int[] EDGES = {-2, -1, 0, 1, 2, 3, 4, 7, 8, 9, 10, 11, 12, 15, 16, 39, 40, 41, 50, 51, 59, 60, 100,
        101, 255, 256, 9_999, 10_000, 99_999, 100_000, 100_001, 1_000_000, 1_000_001, Integer.MIN_VALUE,
        Integer.MAX_VALUE};
    // Of a hundred calls: trays, meetings, rights, auctions, offers.
    private static final int[][] THEMES = {{20, 20, 20, 20, 20}, {0, 100, 0, 0, 0}, {5, 0, 95, 0, 0}, {60, 0, 0, 40, 0},
        {0, 0, 40, 0, 60}, {0, 0, 10, 0, 90}};

    private final Random random;
    private final boolean wild;
    private final int days;
    private final int minutes;
    private final FairTables x = new FairTables();
    private final PlainModel model = new PlainModel();
    private int minute = 0;
    private String call = "";

    private RandomRunsTest(long seed) {
        random = new Random(seed);
        wild = random.nextInt(4) == 0;
        days = new int[] {5, 40, 10_000}[random.nextInt(3)];
        minutes = new int[] {2, 30, 3_000}[random.nextInt(3)];
    }

    public static void main(String[] args) {
        int runs = args.length > 0 ? Integer.parseInt(args[0]) : 60;
        for (int theme = 0; theme < THEMES.length; theme++) {
            for (int run = 0; run < runs; run++) {
                new RandomRunsTest(1_000L * run + theme).play("theme " + theme + " run " + run, THEMES[theme]);
            }
        }
        Due.end();
    }

    private void play(String name, int[] theme) {
        int starters = random.nextInt(19);
        for (int i = 0; i < CALLS; i++) {
            long got;
            if (i < starters) {
                got = start(i);
            } else {
                got = next(theme);
            }
            String where = name + " call " + i + " " + call;
            Due.is(where, got, 1);
            Due.is(where + ": status()", x.status(), model.status);
            Due.is(where + ": upper()", x.upper(), model.upper);
            Due.is(where + ": lower()", x.lower(), model.lower);
        }
    }

    private int alike(String name, long got, long want) {
        call = name + " answered " + got + " for " + want;
        return got == want ? 1 : 0;
    }

    private int alike(String name, boolean got, boolean want) {
        return alike(name, got ? 1 : 0, want ? 1 : 0);
    }

    private int start(int i) {
        return i % 3 == 0 ? alike("agent()", x.agent(), model.agent())
                : i % 3 == 1 ? alike("editor()", x.editor(), model.editor()) : newBook();
    }

    private int newBook() {
        boolean secret = random.nextInt(3) == 0;
        return alike("book(" + secret + ")", x.book(secret), model.book(secret));
    }

    /** A number from 0 to most, now and then another one. */
    private int pick(int most) {
        int odd = random.nextInt(wild ? 20 : 200);
        return odd == 0 ? EDGES[random.nextInt(EDGES.length)] : odd == 1 ? most + 1 : random.nextInt(most + 1);
    }

    private int mask(int all) {
        int bits = Integer.bitCount(all);
        switch (random.nextInt(4)) {
            case 0: return 1 << random.nextInt(bits);
            case 1: return (1 << random.nextInt(bits)) | (1 << random.nextInt(bits));
            case 2: return random.nextInt(wild ? 3 : 20) == 0 ? pick(all) : 1;
            default: return 1 + random.nextInt(all);
        }
    }

    private int next(int[] theme) {
        int spot = random.nextInt(100);
        int kind = 0;
        while (spot >= theme[kind]) {
            spot -= theme[kind];
            kind++;
        }
        switch (kind) {
            case 0: return onTrays();
            case 1: return onMeetings();
            case 2: return onRights();
            case 3: return onAuctions();
            default: return onOffers();
        }
    }

    private int onTrays() {
        int tray = pick(3);
        int place = pick(9);
        switch (random.nextInt(12)) {
            case 0: {
                int sort = random.nextInt(3) == 0 ? pick(3) : 2;
                int many = random.nextInt(4) == 0 ? pick(40) : 10;
                return alike("tray(" + tray + ", " + sort + ", " + many + ")", x.tray(tray, sort, many), model.tray(tray, sort, many));
            }
            case 1: {
                int to = pick(3);
                int j = pick(9);
                int many = random.nextInt(8) == 0 ? pick(40) : random.nextInt(5);
                return alike("pour", x.pour(tray, place, to, j, many), model.pour(tray, place, to, j, many));
            }
            case 2: case 3:
                return alike("read(" + tray + ", " + place + ")", x.read(tray, place), model.read(tray, place));
            default: {
                long v = random.nextInt(200) == 0 ? random.nextLong() : random.nextInt(new int[] {20, 1_000, 1_000_001}[random.nextInt(3)]);
                return alike("write(" + tray + ", " + place + ", " + v + ")", x.write(tray, place, v), model.write(tray, place, v));
            }
        }
    }

    private int onMeetings() {
        int agent = pick(7);
        int editor = pick(9);
        switch (random.nextInt(16)) {
            case 0: return alike("agent()", x.agent(), model.agent());
            case 1: return alike("editor()", x.editor(), model.editor());
            case 2: {
                int many = random.nextInt(3) == 0 ? pick(9) : 1 + random.nextInt(3);
                return alike("hours(" + many + ")", x.hours(many), model.hours(many));
            }
            case 3: return alike("best()", x.best(), model.best());
            case 4: return alike("meets", x.meets(agent, editor), model.meets(agent, editor));
            case 5: {
                int hour = pick(4);
                return alike("at", x.at(agent, hour), model.at(agent, hour));
            }
            default: {
                int worth = random.nextInt(3) == 0 ? pick(100) : random.nextInt(3);
                return alike("worth(" + agent + ", " + editor + ", " + worth + ")", x.worth(agent, editor, worth), model.worth(agent, editor, worth));
            }
        }
    }

    private int onRights() {
        int book = pick(4);
        int editor = pick(5);
        int lands = mask(255);
        int tongues = mask(15);
        int forms = mask(15);
        int from = pick(days - 1);
        int to = random.nextInt(20) == 0 ? pick(days - 1) : Math.min(9_999, from + random.nextInt(3));
        int m = random.nextInt(3) == 0 ? pick(100_000) : pick(minutes);
        switch (random.nextInt(14)) {
            case 0: return random.nextInt(3) == 0 ? newBook() : alike("editor()", x.editor(), model.editor());
            case 1: case 2: {
                boolean is = random.nextInt(3) > 0;
                return alike("list", x.list(book, editor, is), model.list(book, editor, is));
            }
            case 3: return alike("hears", x.hears(book, editor), model.hears(book, editor));
            case 4: case 5: case 6:
                return alike("grant", x.grant(book, editor, lands, tongues, forms, from, to), model.grant(book, editor, lands, tongues, forms, from, to));
            case 7: {
                int grant = pick(20);
                return alike("end(" + grant + ", " + from + ")", x.end(grant, from), model.end(grant, from));
            }
            case 8: case 9: {
                int land = pick(7);
                int tongue = random.nextBoolean() ? 0 : pick(3);
                int form = random.nextBoolean() ? 0 : pick(3);
                return alike("has", x.has(book, land, tongue, form, from), model.has(book, land, tongue, form, from));
            }
            case 10: case 11:
                return alike("left", x.left(book, lands, tongues, forms, from), model.left(book, lands, tongues, forms, from));
            case 12: {
                int until = random.nextInt(5) == 0 ? pick(minutes) : m + random.nextInt(3);
                if (random.nextInt(3) > 0) {
                    return alike("hears", x.hears(book, editor), model.hears(book, editor));
                }
                return alike("option(" + book + ", " + editor + ", " + m + ", " + until + ")", x.option(book, editor, m, until), model.option(book, editor, m, until));
            }
            default:
                return alike("may", x.may(book, editor, lands, tongues, forms, from, to, m), model.may(book, editor, lands, tongues, forms, from, to, m));
        }
    }

    private int onAuctions() {
        if (random.nextInt(3) == 0) {
            int what = pick(2);
            return alike("sold(" + what + ")", x.sold(what), model.sold(what));
        }
        int tray = pick(3);
        boolean bare = random.nextInt(3) == 0;
        int floor = bare ? 0 : random.nextInt(10) == 0 ? pick(1_000_000) : pick(30);
        int by = bare ? -1 : pick(9);
        int topping = pick(50);
        int step = random.nextInt(3) == 0 ? pick(100_000) : 1 + pick(9);
        return alike("auction(" + tray + ", " + floor + ", " + by + ", " + topping + ", " + step + ")",
                x.auction(tray, floor, by, topping, step), model.auction(tray, floor, by, topping, step));
    }

    private int onOffers() {
        int book = pick(2);
        int editor = pick(5);
        int lands = mask(255);
        int tongues = mask(15);
        int forms = mask(15);
        int from = pick(days - 1);
        int to = Math.min(9_999, from + random.nextInt(3));
        if (random.nextInt(4) == 0) {
            minute = Math.min(100_000, minute + random.nextInt(minutes));
        }
        int m = random.nextInt(30) == 0 ? pick(100_000) : minute - (random.nextInt(30) == 0 ? 1 : 0);
        // A far leap would leave all later minutes gone.
        m = m > minute + minutes && random.nextInt(50) > 0 ? minute : m;
        int offer = random.nextInt(20) == 0 ? pick(60) : pick(25);
        switch (random.nextInt(6)) {
            case 0: case 1: {
                int ends = random.nextInt(10) == 0 ? pick(100_000) : m + random.nextInt(2 * minutes);
                int end = ends;
                int at = m;
                return alike("offer", x.offer(book, editor, lands, tongues, forms, from, to, at, end),
                        model.offer(book, editor, lands, tongues, forms, from, to, at, end));
            }
            case 2: return alike("take(" + offer + ", " + m + ")", x.take(offer, m), model.take(offer, m));
            default: return alike("state(" + offer + ", " + m + ")", x.state(offer, m), model.state(offer, m));
        }
    }
}
