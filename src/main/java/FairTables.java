import java.util.Arrays;

/** A fair of rights: meetings, rights to books, auctions and offers. README.md tells how it is used. */
public final class FairTables {
    public static final int NONE = -1;

    private static final int FINE = 0;
    private static final int NO_SUCH = 1;
    private static final int NO_NUMBER = 2;
    private static final int MINUTE_GONE = 3;
    private static final int TRAY_MISSING = 4;
    private static final int NO_PLACE = 5;
    private static final int BELOW_ZERO = 6;
    private static final int ONE_TOO_MANY = 7;
    private static final int SO_ALREADY = 8;
    private static final int THERE_IS_NONE = 9;
    private static final int WOULD_CLASH = 10;
    private static final int UNLIKE_SORTS = 11;
    private static final int MAY_NOT = 12;
    private static final int NOT_OPEN = 13;

    private static final int MOST_TRAYS = 4;
    private static final int MOST_SORTS = 4;
    private static final int MOST_PLACES = 40;
    private static final int MOST_AGENTS = 8;
    private static final int MOST_EDITORS = 10;
    private static final int MOST_PAIRS = MOST_AGENTS * MOST_EDITORS;
    private static final int MOST_HOURS = 8;
    private static final int FIRST_HOURS = 4;
    private static final int MOST_WORTH = 100;
    private static final int MOST_BOOKS = 12;
    private static final int MOST_GRANTS = 60;
    private static final int MOST_OPTIONS = 30;
    private static final int MOST_OFFERS = 60;
    private static final int ALL_LANDS = 255;
    private static final int ALL_TONGUES = 15;
    private static final int ALL_FORMS = 15;
    private static final int LAST_LAND = 7;
    private static final int LAST_TONGUE = 3;
    private static final int LAST_FORM = 3;
    private static final int LAST_DAY = 9_999;
    private static final int LAST_MINUTE = 100_000;
    private static final int MOST_MONEY = 1_000_000;
    private static final int MOST_TOPPING = 50;
    private static final int MOST_STEP = 100_000;

    private static final int PRICE = 0;
    private static final int ROUNDS = 1;
    private static final int TOPPED = 2;

    private final Tray[] trays;
    private final Meetings meetings;
    private final Books books;
    private final Offers offers;
    private Auction latestAuction;
    private int status;
    private long upper;
    private long lower;

    public FairTables() {
        trays = new Tray[MOST_TRAYS];
        for (int i = 0; i < MOST_TRAYS; i++) {
            trays[i] = new Tray();
        }
        meetings = new Meetings();
        books = new Books();
        offers = new Offers();
        latestAuction = null;
        status = FINE;
        upper = 0;
        lower = 1;
    }

    public int status() {
        return status;
    }

    // ---- TRAYS

    public boolean tray(int tray, int sort, int many) {
        status = statusOfNewTray(tray, sort, many);
        if (status != FINE) {
            return false;
        }
        trays[tray].layOut(sort, many);
        return true;
    }

    private static int statusOfNewTray(int tray, int sort, int many) {
        if (!isTray(tray) || sort < 0 || sort >= MOST_SORTS) {
            return NO_SUCH;
        }
        if (many > MOST_PLACES) {
            return NO_NUMBER;
        }
        return many < 0 ? BELOW_ZERO : FINE;
    }

    private static boolean isTray(int tray) {
        return tray >= 0 && tray < MOST_TRAYS;
    }

    public boolean write(int tray, int place, long v) {
        status = statusOfPlace(tray, place);
        if (status != FINE) {
            return false;
        }
        trays[tray].put(place, v);
        return true;
    }

    public long read(int tray, int place) {
        status = statusOfPlace(tray, place);
        return status == FINE ? trays[tray].numbers[place] : NONE;
    }

    private int statusOfPlace(int tray, int place) {
        if (!isTray(tray)) {
            return NO_SUCH;
        }
        if (trays[tray].missing) {
            return TRAY_MISSING;
        }
        return trays[tray].hasPlace(place) ? FINE : NO_PLACE;
    }

    public boolean pour(int tray, int i, int to, int j, int many) {
        status = statusOfPour(tray, i, to, j, many);
        if (status != FINE) {
            return false;
        }
        System.arraycopy(trays[tray].numbers, i, trays[to].numbers, j, many);
        return true;
    }

    private int statusOfPour(int tray, int i, int to, int j, int many) {
        if (!isTray(tray) || !isTray(to)) {
            return NO_SUCH;
        }
        Tray source = trays[tray];
        Tray goal = trays[to];
        if (source.missing || goal.missing) {
            return TRAY_MISSING;
        }
        if (source.sort != goal.sort) {
            return UNLIKE_SORTS;
        }
        if (many < 0) {
            return BELOW_ZERO;
        }
        return source.hasPlaces(i, many) && goal.hasPlaces(j, many) ? FINE : NO_PLACE;
    }

    // ---- meetings

    public int agent() {
        status = meetings.agents < MOST_AGENTS ? FINE : ONE_TOO_MANY;
        if (status != FINE) {
            return NONE;
        }
        meetings.agents++;
        return meetings.agents - 1;
    }

    public int editor() {
        status = meetings.editors < MOST_EDITORS ? FINE : ONE_TOO_MANY;
        if (status != FINE) {
            return NONE;
        }
        meetings.editors++;
        return meetings.editors - 1;
    }

    private boolean isAgent(int agent) {
        return agent >= 0 && agent < meetings.agents;
    }

    private boolean isEditor(int editor) {
        return editor >= 0 && editor < meetings.editors;
    }

    public boolean hours(int many) {
        status = many < 1 || many > MOST_HOURS ? NO_NUMBER : FINE;
        if (status != FINE) {
            return false;
        }
        meetings.changeHours(many);
        return true;
    }

    public boolean worth(int agent, int editor, int worth) {
        status = statusOfWorth(agent, editor, worth);
        if (status != FINE) {
            return false;
        }
        meetings.changeWorth(agent, editor, worth);
        return true;
    }

    private int statusOfWorth(int agent, int editor, int worth) {
        if (!isAgent(agent) || !isEditor(editor)) {
            return NO_SUCH;
        }
        return worth < 0 || worth > MOST_WORTH ? NO_NUMBER : FINE;
    }

    public int best() {
        status = FINE;
        meetings.bringUpToDate();
        return meetings.set.worthTogether();
    }

    public int meets(int agent, int editor) {
        status = isAgent(agent) && isEditor(editor) ? FINE : NO_SUCH;
        if (status != FINE) {
            return NONE;
        }
        meetings.bringUpToDate();
        int hour = meetings.table.hourOf(agent, editor);
        status = hour == NONE ? THERE_IS_NONE : FINE;
        return hour;
    }

    public int at(int agent, int hour) {
        status = statusOfHour(agent, hour);
        if (status != FINE) {
            return NONE;
        }
        meetings.bringUpToDate();
        int editor = meetings.table.editorAt(agent, hour);
        status = editor == NONE ? THERE_IS_NONE : FINE;
        return editor;
    }

    private int statusOfHour(int agent, int hour) {
        if (!isAgent(agent)) {
            return NO_SUCH;
        }
        return hour < 0 || hour >= meetings.hours ? NO_NUMBER : FINE;
    }

    // ---- rights

    public int book(boolean secret) {
        status = books.many < MOST_BOOKS ? FINE : ONE_TOO_MANY;
        return status == FINE ? books.addBook(secret) : NONE;
    }

    private boolean isBook(int book) {
        return book >= 0 && book < books.many;
    }

    public boolean list(int book, int editor, boolean is) {
        status = statusOfListing(book, editor, is);
        if (status != FINE) {
            return false;
        }
        books.putOnList(book, editor, is);
        return true;
    }

    private int statusOfListing(int book, int editor, boolean is) {
        if (!isBook(book) || !isEditor(editor)) {
            return NO_SUCH;
        }
        return books.isOnList(book, editor) == is ? SO_ALREADY : FINE;
    }

    public int hears(int book, int editor) {
        status = isEditor(editor) ? FINE : NO_SUCH;
        if (status != FINE) {
            return NONE;
        }
        return isBook(book) && books.isTold(book, editor) ? 1 : 0;
    }

    public int grant(int book, int editor, int lands, int tongues, int forms, int from, int to) {
        Rights rights = new Rights(lands, tongues, forms, from, to);
        status = statusOfGrant(book, editor, rights);
        return status == FINE ? books.addGrant(book, editor, rights) : NONE;
    }

    private int statusOfGrant(int book, int editor, Rights rights) {
        if (!isBook(book) || !isEditor(editor)) {
            return NO_SUCH;
        }
        if (!rights.canBe()) {
            return NO_NUMBER;
        }
        if (books.manyGrants >= MOST_GRANTS) {
            return ONE_TOO_MANY;
        }
        return books.wouldClash(book, rights) ? WOULD_CLASH : FINE;
    }

    public boolean end(int grant, int day) {
        status = statusOfEnd(grant, day);
        if (status != FINE) {
            return false;
        }
        books.grants[grant].endOn(day);
        return true;
    }

    private int statusOfEnd(int grant, int day) {
        if (grant < 0 || grant >= books.manyGrants) {
            return NO_SUCH;
        }
        if (!isDay(day)) {
            return NO_NUMBER;
        }
        return books.grants[grant].ended ? SO_ALREADY : FINE;
    }

    private static boolean isDay(int day) {
        return day >= 0 && day <= LAST_DAY;
    }

    private static boolean isMinute(int minute) {
        return minute >= 0 && minute <= LAST_MINUTE;
    }

    public int has(int book, int land, int tongue, int form, int day) {
        status = statusOfCell(book, land, tongue, form, day);
        if (status != FINE) {
            return NONE;
        }
        int editor = books.ownerOf(book, new Rights(1 << land, 1 << tongue, 1 << form, day, day));
        status = editor == NONE ? THERE_IS_NONE : FINE;
        return editor;
    }

    private int statusOfCell(int book, int land, int tongue, int form, int day) {
        if (!isBook(book)) {
            return NO_SUCH;
        }
        boolean isCell = land >= 0 && land <= LAST_LAND && tongue >= 0 && tongue <= LAST_TONGUE
                && form >= 0 && form <= LAST_FORM;
        return isCell && isDay(day) ? FINE : NO_NUMBER;
    }

    public boolean left(int book, int lands, int tongues, int forms, int day) {
        Rights rights = new Rights(lands, tongues, forms, day, day);
        status = !isBook(book) ? NO_SUCH : !rights.canBe() ? NO_NUMBER : FINE;
        if (status != FINE) {
            return false;
        }
        int cells = rights.cells();
        tellFraction(cells - books.cellsGranted(book, rights), cells);
        return true;
    }

    private void tellFraction(int part, int whole) {
        int divisor = commonDivisor(part, whole);
        if (divisor < 1) {
            return;
        }
        upper = part / divisor;
        lower = whole / divisor;
    }

    private static int commonDivisor(int part, int whole) {
        int a = whole;
        int b = part;
        for (int i = 0; i < MOST_MONEY && b > 0; i++) {
            int rest = a % b;
            a = b;
            b = rest;
        }
        return a;
    }

    public boolean option(int book, int editor, int from, int to) {
        status = statusOfOption(book, editor, from, to);
        if (status != FINE) {
            return false;
        }
        books.addOption(new Option(book, editor, from, to));
        return true;
    }

    private int statusOfOption(int book, int editor, int from, int to) {
        if (!isBook(book) || !isEditor(editor)) {
            return NO_SUCH;
        }
        if (!isMinute(from) || !isMinute(to) || from > to) {
            return NO_NUMBER;
        }
        return books.manyOptions < MOST_OPTIONS ? FINE : ONE_TOO_MANY;
    }

    public int may(int book, int editor, int lands, int tongues, int forms, int from, int to, int minute) {
        Rights rights = new Rights(lands, tongues, forms, from, to);
        status = statusOfMay(book, editor, rights, minute);
        if (status != FINE) {
            return NONE;
        }
        return books.mayBeOffered(book, editor, rights, minute) ? 1 : 0;
    }

    private int statusOfMay(int book, int editor, Rights rights, int minute) {
        if (!isBook(book) || !isEditor(editor)) {
            return NO_SUCH;
        }
        return rights.canBe() && isMinute(minute) ? FINE : NO_NUMBER;
    }

    public long upper() {
        return upper;
    }

    public long lower() {
        return lower;
    }

    // ---- auctions

    public int auction(int tray, int floor, int by, int topping, int step) {
        status = statusOfAuction(tray, floor, by, topping, step);
        if (status != FINE) {
            return NONE;
        }
        Auction auction = new Auction(trays[tray].numbers, meetings.editors, floor, by, step);
        auction.playRounds();
        auction.topWith(topping);
        if (auction.holder == NONE) {
            status = THERE_IS_NONE;
            return NONE;
        }
        latestAuction = auction;
        return auction.holder;
    }

    private int statusOfAuction(int tray, int floor, int by, int topping, int step) {
        if (!isTray(tray) || (by != NONE && !isEditor(by))) {
            return NO_SUCH;
        }
        if (floor < 0 || floor > MOST_MONEY || topping < 0 || topping > MOST_TOPPING) {
            return NO_NUMBER;
        }
        if (step < 1 || step > MOST_STEP || (floor == 0) != (by == NONE)) {
            return NO_NUMBER;
        }
        if (trays[tray].missing) {
            return TRAY_MISSING;
        }
        if (trays[tray].length < meetings.editors) {
            return NO_PLACE;
        }
        return areLimits(trays[tray], floor, by) ? FINE : NO_NUMBER;
    }

    private boolean areLimits(Tray tray, int floor, int by) {
        for (int editor = 0; editor < meetings.editors; editor++) {
            long limit = tray.numbers[editor];
            long least = editor == by ? floor : 0;
            if (limit < least || limit > MOST_MONEY) {
                return false;
            }
        }
        return true;
    }

    public int sold(int what) {
        if (what < PRICE || what > TOPPED) {
            status = NO_NUMBER;
            return NONE;
        }
        if (latestAuction == null) {
            status = THERE_IS_NONE;
            return NONE;
        }
        status = FINE;
        if (what == PRICE) {
            return latestAuction.bestBid;
        }
        if (what == ROUNDS) {
            return latestAuction.rounds;
        }
        return latestAuction.topped ? 1 : 0;
    }

    // ---- offers

    public int offer(int book, int editor, int lands, int tongues, int forms, int from, int to, int minute, int ends) {
        Rights rights = new Rights(lands, tongues, forms, from, to);
        status = statusOfOffer(book, editor, rights, minute, ends);
        if (status != FINE) {
            return NONE;
        }
        offers.minute = minute;
        return offers.addOffer(new Offer(book, editor, rights, ends));
    }

    private int statusOfOffer(int book, int editor, Rights rights, int minute, int ends) {
        int asked = statusOfMay(book, editor, rights, minute);
        if (asked != FINE) {
            return asked;
        }
        if (!isMinute(ends) || ends <= minute) {
            return NO_NUMBER;
        }
        if (minute < offers.minute) {
            return MINUTE_GONE;
        }
        if (offers.many >= MOST_OFFERS) {
            return ONE_TOO_MANY;
        }
        return books.mayBeOffered(book, editor, rights, minute) ? FINE : MAY_NOT;
    }

    public int take(int offer, int minute) {
        status = statusOfTake(offer, minute);
        if (status != FINE) {
            return NONE;
        }
        Offer taken = offers.rows[offer];
        int grant = books.addGrant(taken.book, taken.editor, taken.rights);
        taken.mark = Offer.TAKEN;
        offers.minute = minute;
        offers.voidClashing(books, taken.book);
        return grant;
    }

    private int statusOfTake(int offer, int minute) {
        int asked = statusOfAsking(offer, minute);
        if (asked != FINE) {
            return asked;
        }
        Offer row = offers.rows[offer];
        if (row.markAt(minute) != Offer.OPEN) {
            return NOT_OPEN;
        }
        if (books.manyGrants >= MOST_GRANTS) {
            return ONE_TOO_MANY;
        }
        return books.mayBeOffered(row.book, row.editor, row.rights, minute) ? FINE : MAY_NOT;
    }

    private int statusOfAsking(int offer, int minute) {
        if (offer < 0 || offer >= offers.many) {
            return NO_SUCH;
        }
        if (!isMinute(minute)) {
            return NO_NUMBER;
        }
        return minute < offers.minute ? MINUTE_GONE : FINE;
    }

    public int state(int offer, int minute) {
        status = statusOfAsking(offer, minute);
        return status == FINE ? offers.rows[offer].markAt(minute) : NONE;
    }

    /** A row of numbers of one sort, or MISSING. */
    private static final class Tray {
        private static final int BYTES = 0;
        private static final int SHORTS = 1;
        private static final int INTS = 2;

        boolean missing = true;
        int sort = 0;
        int length = 0;
        final long[] numbers = new long[MOST_PLACES];

        void layOut(int newSort, int many) {
            missing = false;
            sort = newSort;
            length = many;
            Arrays.fill(numbers, 0L);
        }

        boolean hasPlace(int place) {
            return place >= 0 && place < length;
        }

        boolean hasPlaces(int first, int many) {
            // The difference can't overflow, the sum of first and many could.
            return first >= 0 && first <= length && many <= length - first;
        }

        void put(int place, long number) {
            switch (sort) {
                case BYTES:
                    numbers[place] = (byte) number;
                    break;
                case SHORTS:
                    numbers[place] = (short) number;
                    break;
                case INTS:
                    numbers[place] = (int) number;
                    break;
                default:
                    numbers[place] = number;
                    break;
            }
        }
    }

    /** AGENTS and EDITORS with their WORTHS; BEST and its hours are found when they are asked for. */
    private static final class Meetings {
        int agents = 0;
        int editors = 0;
        int hours = FIRST_HOURS;
        private final int[] worths = new int[MOST_PAIRS];
        final BestSet set = new BestSet();
        final Timetable table = new Timetable();
        private boolean upToDate = true;

        void changeHours(int many) {
            hours = many;
            upToDate = false;
        }

        void changeWorth(int agent, int editor, int worth) {
            worths[agent * MOST_EDITORS + editor] = worth;
            upToDate = false;
        }

        void bringUpToDate() {
            if (upToDate) {
                return;
            }
            if (set.hours != hours) {
                set.startAnew(hours);
            }
            for (int pair = 0; pair < MOST_PAIRS; pair++) {
                set.changeWorth(pair, worths[pair]);
            }
            layAll();
            upToDate = true;
        }

        private void layAll() {
            table.clearFor(hours);
            for (int pair = 0; pair < MOST_PAIRS; pair++) {
                if (set.chosen[pair]) {
                    table.lay(pair / MOST_EDITORS, pair % MOST_EDITORS);
                }
            }
        }
    }

    /**
     * The SET that is BEST for the WORTHS it has been told. When one WORTH changes, the new BEST
     * differs from the old one by one ring of meetings through that pair at most: they leave and
     * enter by turns. The ring may pass the hub, where somebody gets or gives up a free half hour.
     * So the ring of most gain is sought, and turned if it gains anything.
     */
    private static final class BestSet {
        private static final int HUB = MOST_AGENTS + MOST_EDITORS;
        private static final int NODES = HUB + 1;
        private static final int HALF = MOST_PAIRS / 2;
        private static final int WORTH_SHIFT = 42;
        private static final int UNREACHED = -1;

        int hours = FIRST_HOURS;
        final boolean[] chosen = new boolean[MOST_PAIRS];
        private final int[] worths = new int[MOST_PAIRS];
        private final int[] meetingsOf = new int[HUB];
        private final long[] highGains = new long[NODES];
        private final long[] lowGains = new long[NODES];
        private final int[] before = new int[NODES];
        private final boolean[] bettered = new boolean[NODES];

        void startAnew(int newHours) {
            hours = newHours;
            Arrays.fill(worths, 0);
            Arrays.fill(meetingsOf, 0);
            for (int pair = 0; pair < MOST_PAIRS; pair++) {
                chosen[pair] = false;
            }
        }

        int worthTogether() {
            int sum = 0;
            for (int pair = 0; pair < MOST_PAIRS; pair++) {
                sum += chosen[pair] ? worths[pair] : 0;
            }
            return sum;
        }

        void changeWorth(int pair, int worth) {
            boolean leaves = chosen[pair];
            boolean staysBest = leaves ? worth >= worths[pair] : worth <= worths[pair];
            worths[pair] = worth;
            if (staysBest) {
                return;
            }
            int start = leaves ? agentNode(pair) : editorNode(pair);
            int goal = leaves ? editorNode(pair) : agentNode(pair);
            if (!leaves && isFree(start) && isFree(goal)) {
                // Changes among the others can't add to the gain: they would have been a gain before.
                turn(pair);
                return;
            }
            seekWays(start, pair);
            long high = leaves ? -highWeight(pair) : highWeight(pair);
            long low = leaves ? -lowWeight(pair) : lowWeight(pair);
            if (isGain(highGains[goal] + high, lowGains[goal] + low)) {
                turnWay(start, goal);
                turn(pair);
            }
        }

        private static int agentNode(int pair) {
            return pair / MOST_EDITORS;
        }

        private static int editorNode(int pair) {
            return MOST_AGENTS + pair % MOST_EDITORS;
        }

        private boolean isFree(int node) {
            return meetingsOf[node] < hours;
        }

        private static boolean isGain(long high, long low) {
            return high > 0 || (high == 0 && low > 0);
        }

        /*
         * A pair weighs its WORTH first, and then a bit of its own, the greater the earlier the pair
         * is, so that of SETS of the same WORTH the first one weighs most and no two weigh the same.
         * 80 bits and the WORTH need two numbers: the earlier half of the bits stands in the high
         * one below the WORTH, the later half in the low one.
         */
        private long highWeight(int pair) {
            if (worths[pair] == 0) {
                // Less than no meeting at all: it must leave.
                return -1;
            }
            long bit = pair < HALF ? 1L << (HALF - 1 - pair) : 0;
            return ((long) worths[pair] << WORTH_SHIFT) + bit;
        }

        private static long lowWeight(int pair) {
            return pair < HALF ? 0 : 1L << (MOST_PAIRS - 1 - pair);
        }

        /** The ways of most gain from a node to all others; the barred pair is not on them. */
        private void seekWays(int start, int barred) {
            Arrays.fill(before, UNREACHED);
            reach(start, start, 0, 0);
            boolean goesOn = true;
            // No ring gains anything, so no way of most gain has more steps than there are nodes.
            for (int i = 0; goesOn && i < NODES; i++) {
                goesOn = false;
                for (int node = 0; node < NODES; node++) {
                    if (!bettered[node]) {
                        continue;
                    }
                    bettered[node] = false;
                    goesOn = true;
                    if (node < MOST_AGENTS) {
                        stepFromAgent(node, barred);
                    } else if (node < HUB) {
                        stepFromEditor(node, barred);
                    } else {
                        stepFromHub();
                    }
                }
            }
        }

        private void stepFromHub() {
            for (int node = 0; node < HUB; node++) {
                if (node < MOST_AGENTS ? isFree(node) : meetingsOf[node] > 0) {
                    step(HUB, node, 0, 0);
                }
            }
        }

        private void stepFromAgent(int agent, int barred) {
            for (int i = 0; i < MOST_EDITORS; i++) {
                int pair = agent * MOST_EDITORS + i;
                if (worths[pair] > 0 && !chosen[pair] && pair != barred) {
                    step(agent, MOST_AGENTS + i, highWeight(pair), lowWeight(pair));
                }
            }
            if (meetingsOf[agent] > 0) {
                step(agent, HUB, 0, 0);
            }
        }

        private void stepFromEditor(int editor, int barred) {
            for (int agent = 0; agent < MOST_AGENTS; agent++) {
                int pair = agent * MOST_EDITORS + editor - MOST_AGENTS;
                if (chosen[pair] && pair != barred) {
                    step(editor, agent, -highWeight(pair), -lowWeight(pair));
                }
            }
            if (isFree(editor)) {
                step(editor, HUB, 0, 0);
            }
        }

        private void step(int from, int to, long high, long low) {
            long newHigh = highGains[from] + high;
            long newLow = lowGains[from] + low;
            if (before[to] == UNREACHED || isGain(newHigh - highGains[to], newLow - lowGains[to])) {
                reach(from, to, newHigh, newLow);
            }
        }

        private void reach(int from, int to, long high, long low) {
            before[to] = from;
            highGains[to] = high;
            lowGains[to] = low;
            bettered[to] = true;
        }

        private void turnWay(int start, int goal) {
            int node = goal;
            for (int i = 0; i < NODES && node != start && node != UNREACHED; i++) {
                int previous = before[node];
                if (previous >= 0 && previous < HUB && node < HUB) {
                    int agent = Math.min(previous, node);
                    int editor = Math.max(previous, node) - MOST_AGENTS;
                    turn(agent * MOST_EDITORS + editor);
                }
                node = previous;
            }
        }

        private void turn(int pair) {
            chosen[pair] = !chosen[pair];
            int change = chosen[pair] ? 1 : -1;
            meetingsOf[agentNode(pair)] += change;
            meetingsOf[editorNode(pair)] += change;
        }
    }

    /** Who sits with whom at which HALF HOUR. */
    private static final class Timetable {
        private int hours = FIRST_HOURS;
        private final int[] editorsOfAgents = new int[MOST_AGENTS * MOST_HOURS];
        private final int[] agentsOfEditors = new int[MOST_EDITORS * MOST_HOURS];

        Timetable() {
            clearFor(FIRST_HOURS);
        }

        void clearFor(int newHours) {
            hours = newHours;
            Arrays.fill(editorsOfAgents, NONE);
            Arrays.fill(agentsOfEditors, NONE);
        }

        int editorAt(int agent, int hour) {
            return editorsOfAgents[agent * MOST_HOURS + hour];
        }

        private int agentAt(int editor, int hour) {
            return agentsOfEditors[editor * MOST_HOURS + hour];
        }

        int hourOf(int agent, int editor) {
            for (int hour = 0; hour < hours; hour++) {
                if (editorAt(agent, hour) == editor) {
                    return hour;
                }
            }
            return NONE;
        }

        void lay(int agent, int editor) {
            int hour = hourFreeForBoth(agent, editor);
            if (hour == NONE) {
                hour = hourOf(agent, NONE);
                makeFree(editor, hour, hourFreeFor(editor));
            }
            if (hour != NONE) {
                seat(agent, editor, hour);
            }
        }

        private int hourFreeForBoth(int agent, int editor) {
            for (int hour = 0; hour < hours; hour++) {
                if (editorAt(agent, hour) == NONE && agentAt(editor, hour) == NONE) {
                    return hour;
                }
            }
            return NONE;
        }

        private int hourFreeFor(int editor) {
            for (int hour = 0; hour < hours; hour++) {
                if (agentAt(editor, hour) == NONE) {
                    return hour;
                }
            }
            return NONE;
        }

        private void seat(int agent, int editor, int hour) {
            editorsOfAgents[agent * MOST_HOURS + hour] = editor;
            agentsOfEditors[editor * MOST_HOURS + hour] = agent;
        }

        /** Meetings change between the hours a and b, from the editor's at a on, until a is free. */
        private void makeFree(int firstEditor, int a, int b) {
            if (a == NONE || b == NONE) {
                return;
            }
            int editor = firstEditor;
            int agent = agentAt(editor, a);
            agentsOfEditors[editor * MOST_HOURS + a] = NONE;
            for (int i = 0; i < MOST_AGENTS && agent != NONE; i++) {
                int nextEditor = editorAt(agent, b);
                seat(agent, editor, b);
                editorsOfAgents[agent * MOST_HOURS + a] = NONE;
                if (nextEditor == NONE) {
                    return;
                }
                int nextAgent = agentAt(nextEditor, a);
                seat(agent, nextEditor, a);
                agentsOfEditors[nextEditor * MOST_HOURS + b] = NONE;
                editor = nextEditor;
                agent = nextAgent;
            }
        }
    }

    /** RIGHTS to some BOOK; from numbers that a caller may have got wrong, as canBe() tells. */
    private static final class Rights {
        private final int lands;
        private final int tongues;
        private final int forms;
        final int from;
        final int to;

        Rights(int lands, int tongues, int forms, int from, int to) {
            this.lands = lands;
            this.tongues = tongues;
            this.forms = forms;
            this.from = from;
            this.to = to;
        }

        boolean canBe() {
            return lands >= 1 && lands <= ALL_LANDS && tongues >= 1 && tongues <= ALL_TONGUES
                    && forms >= 1 && forms <= ALL_FORMS && isDay(from) && isDay(to) && from <= to;
        }

        int cells() {
            return Integer.bitCount(lands) * Integer.bitCount(tongues) * Integer.bitCount(forms);
        }

        int cellsWith(Rights other) {
            return Integer.bitCount(lands & other.lands) * Integer.bitCount(tongues & other.tongues)
                    * Integer.bitCount(forms & other.forms);
        }
    }

    /** RIGHTS sold to an EDITOR. */
    private static final class Grant {
        final int book;
        final int editor;
        private final Rights rights;
        boolean ended = false;
        private int lastDay;

        Grant(int book, int editor, Rights rights) {
            this.book = book;
            this.editor = editor;
            this.rights = rights;
            lastDay = rights.to;
        }

        void endOn(int day) {
            ended = true;
            lastDay = Math.min(lastDay, day - 1);
        }

        /** The CELLS that are in both on a day that is in both. */
        int cellsWith(int otherBook, Rights other) {
            int first = Math.max(rights.from, other.from);
            int last = Math.min(lastDay, other.to);
            return book == otherBook && first <= last ? rights.cellsWith(other) : 0;
        }
    }

    /** While it lasts, its BOOK is OFFERED to its EDITOR alone. */
    private static final class Option {
        private final int book;
        private final int editor;
        private final int from;
        private final int to;

        Option(int book, int editor, int from, int to) {
            this.book = book;
            this.editor = editor;
            this.from = from;
            this.to = to;
        }

        boolean bars(int askedBook, int askedEditor, int minute) {
            return book == askedBook && editor != askedEditor && from <= minute && minute <= to;
        }
    }

    /** BOOKS with their lists, GRANTS and OPTIONS. */
    private static final class Books {
        int many = 0;
        private final boolean[] secrets = new boolean[MOST_BOOKS];
        private final boolean[] lists = new boolean[MOST_BOOKS * MOST_EDITORS];
        int manyGrants = 0;
        final Grant[] grants = new Grant[MOST_GRANTS];
        int manyOptions = 0;
        private final Option[] options = new Option[MOST_OPTIONS];

        int addBook(boolean secret) {
            secrets[many] = secret;
            many++;
            return many - 1;
        }

        boolean isOnList(int book, int editor) {
            return lists[book * MOST_EDITORS + editor];
        }

        void putOnList(int book, int editor, boolean is) {
            lists[book * MOST_EDITORS + editor] = is;
        }

        boolean isTold(int book, int editor) {
            return !secrets[book] || isOnList(book, editor);
        }

        int addGrant(int book, int editor, Rights rights) {
            grants[manyGrants] = new Grant(book, editor, rights);
            manyGrants++;
            return manyGrants - 1;
        }

        void addOption(Option option) {
            options[manyOptions] = option;
            manyOptions++;
        }

        boolean wouldClash(int book, Rights rights) {
            return ownerOf(book, rights) != NONE;
        }

        /** The EDITOR of the first GRANT that CLASHES with the RIGHTS. */
        int ownerOf(int book, Rights rights) {
            for (int i = 0; i < manyGrants; i++) {
                if (grants[i].cellsWith(book, rights) > 0) {
                    return grants[i].editor;
                }
            }
            return NONE;
        }

        /** Of RIGHTS of one day: no CELL is in two GRANTS, since these would CLASH. */
        int cellsGranted(int book, Rights rights) {
            int sum = 0;
            for (int i = 0; i < manyGrants; i++) {
                sum += grants[i].cellsWith(book, rights);
            }
            return sum;
        }

        boolean mayBeOffered(int book, int editor, Rights rights, int minute) {
            return isTold(book, editor) && !isBarred(book, editor, minute) && !wouldClash(book, rights);
        }

        private boolean isBarred(int book, int editor, int minute) {
            for (int i = 0; i < manyOptions; i++) {
                if (options[i].bars(book, editor, minute)) {
                    return true;
                }
            }
            return false;
        }
    }

    /** One AUCTION, from the FLOOR to the last ROUND and the TOPPING. */
    private static final class Auction {
        private static final int HUNDRED = 100;

        private final int editors;
        private final int[] limits;
        private final int floorEditor;
        private final int step;
        int bestBid;
        int holder;
        int rounds = 0;
        boolean topped = false;

        /** The row holds a limit for each of the editors. */
        Auction(long[] row, int editors, int floor, int by, int step) {
            this.editors = editors;
            this.step = step;
            limits = new int[MOST_EDITORS];
            for (int i = 0; i < editors; i++) {
                limits[i] = (int) row[i];
            }
            floorEditor = by;
            bestBid = floor;
            holder = by;
        }

        void playRounds() {
            boolean goesOn = true;
            for (int i = 0; goesOn && i < MOST_MONEY; i++) {
                skipFullRounds();
                goesOn = playRound();
            }
        }

        private boolean playRound() {
            boolean somebodyBids = false;
            rounds++;
            for (int editor = 0; editor < editors; editor++) {
                if (editor != holder && goesHigher(editor)) {
                    bestBid += step;
                    holder = editor;
                    somebodyBids = true;
                }
            }
            return somebodyBids;
        }

        /** Who is out once stays out by this, since the BEST BID never falls. */
        private boolean goesHigher(int editor) {
            return editor != floorEditor && limits[editor] >= bestBid + step;
        }

        /**
         * A million ROUNDS are not played one by one: when the last of the bidders holds the BEST
         * BID, all of them bid in each ROUND until one of their LIMITS comes near.
         */
        private void skipFullRounds() {
            int bidders = 0;
            int last = NONE;
            int leastLimit = MOST_MONEY;
            for (int editor = 0; editor < editors; editor++) {
                if (goesHigher(editor)) {
                    bidders++;
                    last = editor;
                    leastLimit = Math.min(leastLimit, limits[editor]);
                }
            }
            int raise = bidders * step;
            if (bidders < 2 || last != holder || raise < 1) {
                return;
            }
            int fullRounds = (leastLimit - bestBid) / raise;
            rounds += fullRounds;
            bestBid += fullRounds * raise;
        }

        void topWith(int topping) {
            if (floorEditor == NONE || holder == floorEditor) {
                return;
            }
            int price = bestBid + (bestBid * topping + HUNDRED - 1) / HUNDRED;
            if (limits[floorEditor] >= price) {
                bestBid = price;
                holder = floorEditor;
                topped = true;
            }
        }
    }

    /** RIGHTS that an EDITOR may take until the end. */
    private static final class Offer {
        static final int OPEN = 0;
        static final int TAKEN = 1;
        static final int VOID = 2;
        static final int ENDED = 3;

        final int book;
        final int editor;
        final Rights rights;
        private final int ends;
        int mark = OPEN;

        Offer(int book, int editor, Rights rights, int ends) {
            this.book = book;
            this.editor = editor;
            this.rights = rights;
            this.ends = ends;
        }

        int markAt(int minute) {
            return mark == OPEN && minute > ends ? ENDED : mark;
        }
    }

    /** All OFFERS, and the minute that it is. */
    private static final class Offers {
        int minute = 0;
        int many = 0;
        final Offer[] rows = new Offer[MOST_OFFERS];

        int addOffer(Offer offer) {
            rows[many] = offer;
            many++;
            return many - 1;
        }

        void voidClashing(Books books, int book) {
            for (int i = 0; i < many; i++) {
                Offer row = rows[i];
                if (row.book == book && row.markAt(minute) == Offer.OPEN && books.wouldClash(book, row.rights)) {
                    row.mark = Offer.VOID;
                }
            }
        }
    }
}
