/** Promises 27 to 29: OFFERS that are OPEN, TAKEN, VOID or ENDED. */
public final class OffersTest {
    private static final int MIN = Integer.MIN_VALUE;
    private static final int MAX = Integer.MAX_VALUE;
    private static final int OPEN = 0;
    private static final int TAKEN = 1;
    private static final int VOID = 2;
    private static final int ENDED = 3;

    public static void main(String[] args) {
        offersComeToSixty();
        offersOfAllBooksAreSixty();
        offersFromTheFirstToTheLastMinute();
        offerRefuses();
        offerNeedsThatTheyMay();
        optionsBarOffersWhileTheyLast();
        optionsBarTakesWhileTheyLast();
        minutesNeverGoBack();
        takenUpToTheEnd();
        takenAtTheLastMinute();
        takeMakesAGrant();
        takeVoidsWhatWouldClash();
        takeVoidsWithOneCellAndDayInBoth();
        takeVoidsEarlierOnes();
        takeLeavesWhatHasEnded();
        takeAsksInItsOrder();
        takeOfEachThatIsNotOpen();
        takeNeedsThatTheyStillMay();
        grantsAreSixtyWithTaken();
        stateAtTheEdges();
        stateRefuses();
        Due.end();
    }

    private static void offersComeToSixty() {
        FairTables x = Fairs.withBooks(1, false);
        for (int o = 0; o < 60; o++) {
            Due.gives("offer", x, x.offer(0, 0, 1, 1, 1, 0, 0, o, o + 1), o);
        }
        Due.none("an offer more", x, x.offer(0, 0, 1, 1, 1, 0, 0, 70, 80), 7);
        Due.none("an offer more at a minute that is gone", x, x.offer(0, 0, 1, 1, 1, 0, 0, 58, 80), 3);
        Due.gives("state at 59", x, x.state(59, 59), OPEN);
        x.grant(0, 0, 1, 1, 1, 0, 0);
        // 7 is asked ahead of 12.
        Due.none("an offer more that they may not", x, x.offer(0, 0, 1, 1, 1, 0, 0, 70, 80), 7);
    }

    /** "OFFERS, at most 60": of all BOOKS together, also those that are TAKEN, VOID or ENDED. */
    private static void offersOfAllBooksAreSixty() {
        FairTables x = Fairs.withBooks(2, new boolean[12]);
        Due.gives("one that is taken", x, x.offer(0, 0, 1, 1, 1, 0, 0, 0, 1), 0);
        Due.gives("one that is void", x, x.offer(0, 1, 1, 1, 1, 0, 0, 0, 9), 1);
        Due.gives("one that ends", x, x.offer(1, 1, 1, 1, 1, 0, 0, 0, 1), 2);
        Due.gives("take(0, 1)", x, x.take(0, 1), 0);
        for (int o = 3; o < 60; o++) {
            Due.gives("offer", x, x.offer(o % 12, 0, 2, 1, 1, 0, 0, 2, 3), o);
        }
        Due.gives("the void one", x, x.state(1, 2), VOID);
        Due.gives("the one that ended", x, x.state(2, 2), ENDED);
        for (int book = 0; book < 12; book++) {
            Due.none("an offer more of book " + book, x, x.offer(book, 0, 2, 1, 1, 0, 0, 2, 3), 7);
        }
        Due.gives("state of the last one", x, x.state(59, 2), OPEN);
        Due.none("state of one behind it", x, x.state(60, 2), 1);
        Due.gives("take of the last one", x, x.take(59, 3), 1);
    }

    /** "made at a minute, ending at a later one (to 100,000)" */
    private static void offersFromTheFirstToTheLastMinute() {
        FairTables x = Fairs.withBooks(1, false);
        Due.none("offer from -1", x, x.offer(0, 0, 1, 1, 1, 0, 0, -1, 5), 2);
        Due.none("offer from 0 to 0", x, x.offer(0, 0, 1, 1, 1, 0, 0, 0, 0), 2);
        Due.gives("offer from 0 to 1", x, x.offer(0, 0, 1, 1, 1, 0, 0, 0, 1), 0);
        Due.gives("offer from 0 to 100000", x, x.offer(0, 0, 1, 1, 1, 0, 0, 0, 100_000), 1);
        Due.none("offer from 0 to 100001", x, x.offer(0, 0, 1, 1, 1, 0, 0, 0, 100_001), 2);
        Due.gives("offer from 99999 to 100000", x, x.offer(0, 0, 1, 1, 1, 0, 0, 99_999, 100_000), 2);
        Due.none("offer from 100000 to 100000", x, x.offer(0, 0, 1, 1, 1, 0, 0, 100_000, 100_000), 2);
        Due.none("offer from 100000 to 100001", x, x.offer(0, 0, 1, 1, 1, 0, 0, 100_000, 100_001), 2);
        Due.none("offer from 99999 to MIN", x, x.offer(0, 0, 1, 1, 1, 0, 0, 99_999, MIN), 2);
        Due.none("offer from MIN to MAX", x, x.offer(0, 0, 1, 1, 1, 0, 0, MIN, MAX), 2);
        Due.none("offer at a minute that is gone", x, x.offer(0, 0, 1, 1, 1, 0, 0, 99_998, 99_999), 3);
        Due.gives("offer at the same minute", x, x.offer(0, 0, 1, 1, 1, 0, 0, 99_999, 100_000), 3);
    }

    private static void offerRefuses() {
        FairTables x = Fairs.withBooks(1, false);
        Due.gives("offer", x, x.offer(0, 0, 1, 1, 1, 0, 0, 10, 20), 0);
        for (int bad : new int[] {-1, 1, MIN, MAX}) {
            Due.none("offer of book " + bad, x, x.offer(bad, 0, 0, 1, 1, 0, 0, 5, 20), 1);
            Due.none("offer to editor " + bad, x, x.offer(0, bad, 0, 1, 1, 0, 0, 5, 20), 1);
        }
        for (int bad : new int[] {0, -1, 256, MIN, MAX}) {
            Due.none("offer for lands " + bad, x, x.offer(0, 0, bad, 1, 1, 0, 0, 5, 20), 2);
        }
        for (int bad : new int[] {0, -1, 16, MIN, MAX}) {
            Due.none("offer for tongues " + bad, x, x.offer(0, 0, 1, bad, 1, 0, 0, 5, 20), 2);
            Due.none("offer for forms " + bad, x, x.offer(0, 0, 1, 1, bad, 0, 0, 5, 20), 2);
        }
        for (int bad : new int[] {-1, 10_000, MIN, MAX}) {
            Due.none("offer from " + bad, x, x.offer(0, 0, 1, 1, 1, bad, 3, 5, 20), 2);
            Due.none("offer to " + bad, x, x.offer(0, 0, 1, 1, 1, 3, bad, 5, 20), 2);
        }
        Due.none("offer from 6 to 5", x, x.offer(0, 0, 1, 1, 1, 6, 5, 5, 20), 2);
        for (int bad : new int[] {-1, 100_001, MIN, MAX}) {
            Due.none("offer at " + bad, x, x.offer(0, 0, 1, 1, 1, 0, 0, bad, 20), 2);
            Due.none("offer until " + bad, x, x.offer(0, 0, 1, 1, 1, 0, 0, 10, bad), 2);
        }
        Due.none("offer that ends ahead of its minute", x, x.offer(0, 0, 1, 1, 1, 0, 0, 12, 11), 2);
        Due.none("offer that ends at its minute", x, x.offer(0, 0, 1, 1, 1, 0, 0, 12, 12), 2);
        Due.none("offer that ends at its minute, which is gone", x, x.offer(0, 0, 1, 1, 1, 0, 0, 9, 9), 2);
        Due.none("offer at a minute that is gone", x, x.offer(0, 0, 1, 1, 1, 0, 0, 9, 20), 3);
        Due.gives("offer at the same minute", x, x.offer(0, 0, 1, 1, 1, 0, 0, 10, 11), 1);
        Due.gives("offer up to the last minute", x, x.offer(0, 0, 1, 1, 1, 0, 0, 99_999, 100_000), 2);
    }

    private static void offerNeedsThatTheyMay() {
        FairTables x = Fairs.withBooks(2, false, true);
        x.grant(0, 1, 1, 1, 1, 5, 6);
        Due.none("offer that would clash", x, x.offer(0, 0, 1, 1, 1, 6, 7, 10, 20), 12);
        Due.none("offer of a secret book", x, x.offer(1, 0, 1, 1, 1, 0, 0, 10, 20), 12);
        x.option(0, 1, 10, 12);
        Due.none("offer while an option lasts", x, x.offer(0, 0, 1, 1, 1, 0, 0, 12, 20), 12);
        // None of these moved the minute.
        Due.gives("offer ahead of the option", x, x.offer(0, 0, 1, 1, 1, 0, 0, 9, 20), 0);
        Due.gives("offer to the one with the option", x, x.offer(0, 1, 1, 1, 1, 0, 0, 10, 20), 1);
        x.list(1, 0, true);
        Due.gives("offer of a secret book", x, x.offer(1, 0, 1, 1, 1, 0, 0, 10, 20), 2);
        Due.none("offer of a secret book to another one", x, x.offer(1, 1, 1, 1, 1, 0, 0, 10, 20), 12);
        // Offers don't bar one another.
        Due.gives("offer behind the option", x, x.offer(0, 0, 1, 1, 1, 0, 0, 13, 20), 3);
    }

    /** "while one lasts (both counted), nobody else is OFFERED the BOOK" */
    private static void optionsBarOffersWhileTheyLast() {
        for (int minute = 8; minute <= 14; minute++) {
            FairTables x = Fairs.withBooks(2, false, false);
            x.option(0, 1, 10, 12);
            boolean lasts = minute >= 10 && minute <= 12;
            Due.is("offer at " + minute, x.offer(0, 0, 1, 1, 1, 0, 0, minute, 20), lasts ? -1 : 0);
            Due.is("status()", x.status(), lasts ? 12 : 0);
            Due.gives("offer to the one with the option", x, x.offer(0, 1, 1, 1, 1, 0, 0, minute, 20), lasts ? 0 : 1);
            Due.gives("offer of another book", x, x.offer(1, 0, 1, 1, 1, 0, 0, minute, 20), lasts ? 1 : 2);
        }
    }

    private static void optionsBarTakesWhileTheyLast() {
        for (int minute = 8; minute <= 14; minute++) {
            FairTables x = Fairs.withBooks(2, false);
            x.offer(0, 0, 1, 1, 1, 0, 0, 5, 20);
            x.offer(0, 1, 2, 1, 1, 0, 0, 5, 20);
            x.option(0, 1, 10, 12);
            boolean lasts = minute >= 10 && minute <= 12;
            Due.is("take at " + minute, x.take(0, minute), lasts ? -1 : 0);
            Due.is("status()", x.status(), lasts ? 12 : 0);
            Due.gives("state of it", x, x.state(0, minute), lasts ? OPEN : TAKEN);
            Due.gives("take by the one with the option", x, x.take(1, minute), lasts ? 0 : 1);
        }
    }

    private static void minutesNeverGoBack() {
        FairTables x = Fairs.withBooks(1, false);
        Due.gives("offer at 10", x, x.offer(0, 0, 1, 1, 1, 0, 0, 10, 90), 0);
        Due.gives("offer at 10", x, x.offer(0, 0, 2, 1, 1, 0, 0, 10, 90), 1);
        Due.gives("state(0, 50)", x, x.state(0, 50), OPEN);
        // state() doesn't move the minute, nor do calls that are refused.
        Due.gives("state(0, 10)", x, x.state(0, 10), OPEN);
        Due.none("take(0, 91)", x, x.take(0, 91), 13);
        Due.none("take(5, 80)", x, x.take(5, 80), 1);
        Due.gives("state(0, 10)", x, x.state(0, 10), OPEN);
        Due.none("state(0, 9)", x, x.state(0, 9), 3);
        Due.none("take(0, 9)", x, x.take(0, 9), 3);
        Due.gives("take(0, 30)", x, x.take(0, 30), 0);
        Due.none("state(1, 29)", x, x.state(1, 29), 3);
        Due.none("take(1, 29)", x, x.take(1, 29), 3);
        Due.none("offer at 29", x, x.offer(0, 0, 4, 1, 1, 0, 0, 29, 90), 3);
        Due.gives("take(1, 30)", x, x.take(1, 30), 1);
        Due.gives("offer at 40", x, x.offer(0, 0, 4, 1, 1, 0, 0, 40, 90), 2);
        Due.none("state(2, 39)", x, x.state(2, 39), 3);
    }

    private static void takenUpToTheEnd() {
        FairTables x = Fairs.withBooks(1, false);
        x.offer(0, 0, 1, 1, 1, 0, 0, 0, 5);
        x.offer(0, 0, 2, 1, 1, 0, 0, 0, 6);
        Due.gives("state at the end", x, x.state(0, 5), OPEN);
        Due.gives("state behind the end", x, x.state(0, 6), ENDED);
        Due.none("take behind the end", x, x.take(0, 6), 13);
        Due.gives("take at the end", x, x.take(1, 6), 0);
        Due.gives("state of the other one", x, x.state(0, 6), ENDED);
        Due.gives("state of the taken one behind its end", x, x.state(1, 100_000), TAKEN);
        Due.none("take once more", x, x.take(1, 6), 13);
    }

    private static void takenAtTheLastMinute() {
        FairTables x = Fairs.withBooks(1, false);
        x.offer(0, 0, 1, 1, 1, 0, 0, 0, 100_000);
        x.offer(0, 0, 2, 1, 1, 0, 0, 0, 99_999);
        x.offer(0, 0, 4, 1, 1, 0, 0, 0, 1);
        Due.gives("take at the minute it is", x, x.take(2, 0), 0);
        Due.none("take at 100001", x, x.take(0, 100_001), 2);
        Due.none("take at 100000 of one that ended at 99999", x, x.take(1, 100_000), 13);
        Due.gives("take at 100000", x, x.take(0, 100_000), 1);
        Due.none("state at 99999", x, x.state(1, 99_999), 3);
        Due.gives("state at 100000", x, x.state(1, 100_000), ENDED);
    }

    private static void takeMakesAGrant() {
        FairTables x = Fairs.withBooks(3, false, false);
        x.grant(1, 0, 1, 1, 1, 0, 0);
        x.offer(0, 2, 6, 3, 1, 4, 8, 1, 9);
        Due.none("has ahead of it", x, x.has(0, 1, 0, 0, 4), 9);
        Due.gives("take", x, x.take(0, 5), 1);
        Due.gives("has on the first day", x, x.has(0, 1, 0, 0, 4), 2);
        Due.gives("has on the last day", x, x.has(0, 2, 1, 0, 8), 2);
        Due.none("has behind it", x, x.has(0, 2, 1, 0, 9), 9);
        Due.none("has of another land", x, x.has(0, 0, 1, 0, 5), 9);
        Due.none("grant that would clash", x, x.grant(0, 0, 2, 2, 1, 8, 8), 10);
        Due.done("end(1, 6)", x, x.end(1, 6));
        Due.gives("state of one whose grant has ended", x, x.state(0, 5), TAKEN);
        Due.gives("grant on days that are free again", x, x.grant(0, 0, 2, 2, 1, 6, 8), 2);
    }

    private static void takeVoidsWhatWouldClash() {
        FairTables x = Fairs.withBooks(3, false, false);
        x.offer(0, 0, 1, 1, 1, 0, 5, 10, 50);
        x.offer(0, 1, 1, 1, 1, 5, 9, 10, 50);
        x.offer(0, 2, 2, 1, 1, 0, 5, 10, 50);
        x.offer(1, 2, 1, 1, 1, 0, 5, 10, 50);
        x.offer(0, 0, 3, 1, 1, 3, 3, 10, 50);
        x.offer(0, 0, 1, 1, 1, 6, 9, 10, 50);
        Due.gives("take(0, 12)", x, x.take(0, 12), 0);
        Due.gives("itself", x, x.state(0, 12), TAKEN);
        Due.gives("one day in both", x, x.state(1, 12), VOID);
        Due.gives("another land", x, x.state(2, 12), OPEN);
        Due.gives("another book", x, x.state(3, 12), OPEN);
        Due.gives("of the same editor", x, x.state(4, 12), VOID);
        Due.gives("other days", x, x.state(5, 12), OPEN);
        Due.gives("a void one behind its end", x, x.state(1, 51), VOID);
        Due.none("take of a void one", x, x.take(1, 12), 13);
        // It stays VOID when the grant is ended.
        Due.done("end(0, 0)", x, x.end(0, 0));
        Due.gives("a void one", x, x.state(1, 12), VOID);
        Due.none("take of a void one", x, x.take(1, 12), 13);
        Due.gives("take(5, 12)", x, x.take(5, 12), 1);
        Due.gives("another land", x, x.state(2, 12), OPEN);
        // A grant that is not taken voids nothing; the next that is taken finds all that would clash now.
        x.grant(0, 0, 2, 1, 1, 5, 5);
        Due.gives("one that would clash", x, x.state(2, 12), OPEN);
        x.offer(0, 1, 128, 8, 8, 0, 0, 12, 50);
        Due.gives("take(6, 12)", x, x.take(6, 12), 3);
        Due.gives("one that would clash now", x, x.state(2, 12), VOID);
        Due.gives("another book", x, x.state(3, 12), OPEN);
    }

    /** "and would CLASH now": one LAND, one TONGUE, one FORM and one day in both, and each of the four in one alone. */
    private static void takeVoidsWithOneCellAndDayInBoth() {
        int[][] others = {{6, 6, 6, 20, 30, VOID}, {6, 6, 6, 0, 10, VOID}, {5, 6, 6, 20, 30, OPEN}, {6, 5, 6, 20, 30, OPEN},
            {6, 6, 5, 20, 30, OPEN}, {6, 6, 6, 21, 30, OPEN}, {6, 6, 6, 0, 9, OPEN}, {255, 15, 15, 0, 9_999, VOID},
            {253, 15, 15, 0, 9_999, OPEN}, {255, 13, 15, 0, 9_999, OPEN}, {255, 15, 13, 0, 9_999, OPEN}};
        FairTables x = Fairs.withBooks(2, false, false);
        x.offer(0, 0, 2, 2, 2, 10, 20, 1, 50);
        for (int i = 0; i < others.length; i++) {
            int[] o = others[i];
            Due.gives("offer", x, x.offer(0, 1, o[0], o[1], o[2], o[3], o[4], 1, 50), i + 1);
        }
        for (int[] o : others) {
            x.offer(1, 1, o[0], o[1], o[2], o[3], o[4], 1, 50);
        }
        Due.gives("take(0, 1)", x, x.take(0, 1), 0);
        for (int i = 0; i < others.length; i++) {
            Due.gives("state of offer " + (i + 1), x, x.state(i + 1, 1), others[i][5]);
            Due.gives("the same of another book", x, x.state(i + 1 + others.length, 1), OPEN);
        }
    }

    private static void takeVoidsEarlierOnes() {
        FairTables x = Fairs.withBooks(2, false);
        x.offer(0, 0, 1, 1, 1, 0, 5, 10, 50);
        x.offer(0, 1, 1, 1, 1, 5, 9, 10, 50);
        Due.gives("take(1, 12)", x, x.take(1, 12), 0);
        Due.gives("the first offer", x, x.state(0, 12), VOID);
        Due.gives("the one that was taken", x, x.state(1, 12), TAKEN);
    }

    private static void takeLeavesWhatHasEnded() {
        FairTables x = Fairs.withBooks(2, false);
        x.offer(0, 0, 1, 1, 1, 0, 5, 10, 50);
        x.offer(0, 1, 1, 1, 1, 0, 5, 10, 20);
        x.offer(0, 1, 1, 1, 1, 0, 5, 10, 21);
        Due.gives("take(0, 21)", x, x.take(0, 21), 0);
        Due.gives("one that had ended", x, x.state(1, 21), ENDED);
        Due.gives("one that ends then", x, x.state(2, 21), VOID);
        Due.gives("one that ended then, later", x, x.state(2, 22), VOID);
    }

    private static void takeAsksInItsOrder() {
        FairTables x = Fairs.withBooks(2, false);
        x.offer(0, 0, 1, 1, 1, 0, 5, 10, 20);
        for (int bad : new int[] {-1, 1, 60, MIN, MAX}) {
            Due.none("take of offer " + bad, x, x.take(bad, -1), 1);
        }
        for (int bad : new int[] {-1, 100_001, MIN, MAX}) {
            Due.none("take at " + bad, x, x.take(0, bad), 2);
        }
        Due.none("take at 9", x, x.take(0, 9), 3);
        x.grant(0, 1, 1, 1, 1, 5, 5);
        Due.none("take at 21", x, x.take(0, 21), 13);
        Due.none("take at 20", x, x.take(0, 20), 12);
        for (int g = 1; g < 60; g++) {
            x.grant(0, 1, 2, 1, 1, g, g);
        }
        // 13 ahead of 7, and 7 ahead of 12.
        Due.none("take at 21 with all grants", x, x.take(0, 21), 13);
        Due.none("take at 20 with all grants", x, x.take(0, 20), 7);
        Due.gives("state at 10", x, x.state(0, 10), OPEN);
    }

    /** "13: it is not OPEN then": TAKEN, VOID and ENDED, each of them ahead of what comes behind it. */
    private static void takeOfEachThatIsNotOpen() {
        FairTables x = Fairs.withBooks(2, false);
        x.offer(0, 0, 1, 1, 1, 0, 0, 0, 9);
        x.offer(0, 1, 1, 1, 1, 0, 0, 0, 9);
        x.offer(0, 1, 2, 1, 1, 0, 0, 0, 1);
        x.offer(0, 1, 4, 1, 1, 0, 0, 0, 2);
        Due.gives("take(0, 2)", x, x.take(0, 2), 0);
        for (int full = 0; full < 2; full++) {
            Due.none("take of a taken one", x, x.take(0, 2), 13);
            Due.none("take of a void one", x, x.take(1, 2), 13);
            Due.none("take of one that ended", x, x.take(2, 2), 13);
            Fairs.fill(x, (y, day) -> y.grant(0, 0, 8, 1, 1, day, day) >= 0);
        }
        Due.none("take of an open one with 60 grants", x, x.take(3, 2), 7);
        Due.gives("a taken one", x, x.state(0, 2), TAKEN);
        Due.gives("a void one", x, x.state(1, 2), VOID);
        Due.gives("one that ended", x, x.state(2, 2), ENDED);
        Due.gives("an open one", x, x.state(3, 2), OPEN);
    }

    private static void takeNeedsThatTheyStillMay() {
        FairTables x = Fairs.withBooks(2, false, true);
        x.list(1, 0, true);
        x.offer(0, 0, 1, 1, 1, 0, 0, 1, 50);
        x.offer(1, 0, 1, 1, 1, 0, 0, 1, 50);
        x.option(0, 1, 10, 20);
        Due.none("take while an option lasts", x, x.take(0, 10), 12);
        Due.none("take while an option lasts", x, x.take(0, 20), 12);
        x.list(1, 0, false);
        Due.none("take of a secret book", x, x.take(1, 9), 12);
        Due.gives("state of it", x, x.state(1, 9), OPEN);
        x.list(1, 0, true);
        Due.gives("take of a secret book", x, x.take(1, 9), 0);
        x.grant(0, 1, 1, 1, 1, 0, 0);
        Due.none("take of what would clash", x, x.take(0, 30), 12);
        Due.gives("state of it", x, x.state(0, 30), OPEN);
        x.end(1, 0);
        Due.gives("take of what is free again", x, x.take(0, 30), 2);
    }

    private static void grantsAreSixtyWithTaken() {
        FairTables x = Fairs.withBooks(1, false);
        x.offer(0, 0, 1, 1, 1, 0, 0, 0, 9);
        x.offer(0, 0, 2, 1, 1, 0, 0, 0, 9);
        for (int g = 0; g < 59; g++) {
            x.grant(0, 0, 4, 1, 1, g, g);
        }
        Due.gives("take(0, 1)", x, x.take(0, 1), 59);
        Due.none("take(1, 1)", x, x.take(1, 1), 7);
        Due.none("grant", x, x.grant(0, 0, 8, 1, 1, 0, 0), 7);
        Due.gives("state(1, 1)", x, x.state(1, 1), OPEN);
    }

    /** "ENDED is an OPEN one at a minute behind its end"; TAKEN and VOID ones never are. */
    private static void stateAtTheEdges() {
        FairTables x = Fairs.withBooks(2, false);
        x.offer(0, 0, 1, 1, 1, 0, 0, 10, 20);
        x.offer(0, 1, 1, 1, 1, 0, 0, 10, 20);
        x.offer(0, 1, 2, 1, 1, 0, 0, 10, 11);
        x.offer(0, 1, 2, 1, 1, 0, 0, 10, 99_999);
        int[][] due = {{10, OPEN, OPEN, OPEN, OPEN}, {11, OPEN, OPEN, OPEN, OPEN}, {12, OPEN, OPEN, ENDED, OPEN},
            {20, OPEN, OPEN, ENDED, OPEN}, {21, ENDED, ENDED, ENDED, OPEN}, {99_999, ENDED, ENDED, ENDED, OPEN},
            {100_000, ENDED, ENDED, ENDED, ENDED}};
        states(x, due);
        Due.gives("take(0, 20)", x, x.take(0, 20), 0);
        Due.none("state(0, 19)", x, x.state(0, 19), 3);
        states(x, new int[][] {{20, TAKEN, VOID, ENDED, OPEN}, {21, TAKEN, VOID, ENDED, OPEN},
            {99_999, TAKEN, VOID, ENDED, OPEN}, {100_000, TAKEN, VOID, ENDED, ENDED}});
        // state() does not move the minute: what it was is asked once more.
        Due.gives("state(3, 20)", x, x.state(3, 20), OPEN);
    }

    private static void states(FairTables x, int[][] due) {
        for (int[] row : due) {
            for (int offer = 0; offer < 4; offer++) {
                Due.gives("state(" + offer + ", " + row[0] + ")", x, x.state(offer, row[0]), row[offer + 1]);
            }
        }
    }

    private static void stateRefuses() {
        FairTables x = Fairs.withBooks(1, false);
        x.offer(0, 0, 1, 1, 1, 0, 0, 10, 20);
        for (int bad : new int[] {-1, 1, 60, MIN, MAX}) {
            Due.none("state of offer " + bad, x, x.state(bad, -1), 1);
        }
        for (int bad : new int[] {-1, 100_001, MIN, MAX}) {
            Due.none("state at " + bad, x, x.state(0, bad), 2);
        }
        Due.none("state at 9", x, x.state(0, 9), 3);
        Due.none("state at 0", x, x.state(0, 0), 3);
        Due.gives("state at 100000", x, x.state(0, 100_000), ENDED);
        Due.gives("state at 10", x, x.state(0, 10), OPEN);
    }
}
