import java.math.BigInteger;

/** Promises 14 to 24: BOOKS, lists, GRANTS, LEFT, OPTIONS and who MAY be OFFERED what. */
public final class RightsTest {
    private static final int MIN = Integer.MIN_VALUE;
    private static final int MAX = Integer.MAX_VALUE;

    public static void main(String[] args) {
        booksCome();
        listsChange();
        secretBooksAreToldToTheirList();
        grantsComeToSixty();
        grantsClashInAllFourAlone();
        eachLandTongueAndFormIsItsOwn();
        grantsOnTheFirstAndTheLastDay();
        grantsOfAllBooksAreSixty();
        grantRefuses();
        endFreesDays();
        endOnTheEdges();
        endRefuses();
        hasTellsTheEditor();
        hasRefuses();
        leftIsAFraction();
        leftOfAllCells();
        leftHasNoCommonDivisor();
        leftRefuses();
        optionsBarOthers();
        optionsOfOneMinute();
        optionsOfAllBooksAreThirty();
        optionRefuses();
        mayNeedsAllThree();
        mayRefuses();
        Due.end();
    }

    private static void booksCome() {
        FairTables x = Fairs.withBooks(1);
        for (int b = 0; b < 12; b++) {
            Due.gives("hears(" + b + ", 0)", x, x.hears(b, 0), 0);
            Due.gives("book", x, x.book(b % 2 == 1), b);
            Due.gives("hears(" + b + ", 0)", x, x.hears(b, 0), 1 - b % 2);
        }
        Due.none("book(false)", x, x.book(false), 7);
        Due.none("book(true)", x, x.book(true), 7);
        Due.gives("hears(12, 0)", x, x.hears(12, 0), 0);
        Due.gives("hears(11, 0)", x, x.hears(11, 0), 0);
    }

    private static void listsChange() {
        FairTables x = Fairs.withBooks(2, true, true, false);
        Due.not("list(0, 0, false)", x, x.list(0, 0, false), 8);
        Due.done("list(0, 0, true)", x, x.list(0, 0, true));
        Due.not("list(0, 0, true)", x, x.list(0, 0, true), 8);
        Due.gives("hears(0, 0)", x, x.hears(0, 0), 1);
        Due.gives("hears(0, 1)", x, x.hears(0, 1), 0);
        Due.gives("hears(1, 0)", x, x.hears(1, 0), 0);
        Due.done("list(0, 0, false)", x, x.list(0, 0, false));
        Due.gives("hears(0, 0)", x, x.hears(0, 0), 0);
        Due.not("list(0, 0, false)", x, x.list(0, 0, false), 8);
        // A book that is not secret is told to all, whatever its list.
        Due.done("list(2, 1, true)", x, x.list(2, 1, true));
        Due.not("list(2, 1, true)", x, x.list(2, 1, true), 8);
        Due.gives("hears(2, 0)", x, x.hears(2, 0), 1);
        for (int bad : new int[] {-1, 3, MIN, MAX}) {
            Due.not("list(" + bad + ", 0, true)", x, x.list(bad, 0, true), 1);
        }
        for (int bad : new int[] {-1, 2, MIN, MAX}) {
            Due.not("list(0, " + bad + ", true)", x, x.list(0, bad, true), 1);
            Due.not("list(0, " + bad + ", false)", x, x.list(0, bad, false), 1);
        }
    }

    private static void secretBooksAreToldToTheirList() {
        FairTables x = Fairs.withBooks(10, false, true);
        x.list(1, 9, true);
        for (int e = 0; e < 10; e++) {
            Due.gives("hears(0, " + e + ")", x, x.hears(0, e), 1);
            Due.gives("hears(1, " + e + ")", x, x.hears(1, e), e == 9 ? 1 : 0);
            // Of a secret book the same as of one that there is not.
            for (int no : new int[] {2, -1, 12, MIN, MAX}) {
                Due.gives("hears(" + no + ", " + e + ")", x, x.hears(no, e), 0);
            }
        }
        for (int bad : new int[] {-1, 10, MIN, MAX}) {
            Due.none("hears(0, " + bad + ")", x, x.hears(0, bad), 1);
            Due.none("hears(5, " + bad + ")", x, x.hears(5, bad), 1);
        }
    }

    private static void grantsComeToSixty() {
        FairTables x = Fairs.withBooks(1, false);
        for (int g = 0; g < 60; g++) {
            Due.gives("grant", x, x.grant(0, 0, 255, 15, 15, g, g), g);
        }
        Due.none("a grant more", x, x.grant(0, 0, 1, 1, 1, 60, 60), 7);
        // 1 and 2 are asked ahead of 7, and 7 ahead of 10.
        Due.none("a grant that would clash", x, x.grant(0, 0, 1, 1, 1, 0, 0), 7);
        Due.none("a grant of no book", x, x.grant(1, 0, 1, 1, 1, 0, 0), 1);
        Due.none("a grant of no lands", x, x.grant(0, 0, 0, 1, 1, 0, 0), 2);
        Due.none("has(0, 0, 0, 0, 60)", x, x.has(0, 0, 0, 0, 60), 9);
        // An ended one still counts.
        Due.done("end(59, 0)", x, x.end(59, 0));
        Due.none("a grant more", x, x.grant(0, 0, 1, 1, 1, 59, 59), 7);
    }

    private static void grantsClashInAllFourAlone() {
        FairTables x = Fairs.withBooks(2, false, false);
        Due.gives("grant 0", x, x.grant(0, 0, 6, 6, 6, 100, 200), 0);
        Due.none("the same", x, x.grant(0, 1, 6, 6, 6, 100, 200), 10);
        Due.none("the same by the same", x, x.grant(0, 0, 6, 6, 6, 100, 200), 10);
        Due.none("one cell, last day", x, x.grant(0, 1, 4, 2, 12, 200, 300), 10);
        Due.none("one cell, first day", x, x.grant(0, 1, 3, 3, 3, 0, 100), 10);
        Due.none("all around", x, x.grant(0, 1, 255, 15, 15, 0, 9_999), 10);
        Due.none("inside", x, x.grant(0, 1, 2, 2, 2, 150, 150), 10);
        Due.gives("other lands", x, x.grant(0, 1, 249, 15, 15, 0, 9_999), 1);
        Due.gives("other tongues", x, x.grant(0, 1, 6, 9, 15, 0, 9_999), 2);
        Due.gives("other forms", x, x.grant(0, 1, 6, 6, 9, 0, 9_999), 3);
        Due.gives("days ahead", x, x.grant(0, 1, 6, 6, 6, 0, 99), 4);
        Due.gives("days behind", x, x.grant(0, 1, 6, 6, 6, 201, 9_999), 5);
        Due.gives("another book", x, x.grant(1, 1, 6, 6, 6, 100, 200), 6);
        // Now all of it is sold.
        Due.done("left", x, x.left(0, 255, 15, 15, 150));
        Due.is("upper()", x.upper(), 0);
        Due.is("lower()", x.lower(), 1);
    }

    /** "1 for LAND 0, 2 for 1 ..": one LAND, TONGUE or FORM CLASHES with itself and with no other one. */
    private static void eachLandTongueAndFormIsItsOwn() {
        for (int i = 0; i < 8; i++) {
            FairTables x = Fairs.withBooks(1, false);
            Due.gives("grant for land " + i, x, x.grant(0, 0, 1 << i, 15, 15, 3, 3), 0);
            Due.gives("may for all lands but " + i, x, x.may(0, 0, 255 - (1 << i), 15, 15, 3, 3, 0), 1);
            for (int j = 0; j < 8; j++) {
                Due.gives("may for land " + j, x, x.may(0, 0, 1 << j, 15, 15, 3, 3, 0), i == j ? 0 : 1);
                Due.is("has in land " + j, x.has(0, j, 0, 0, 3), i == j ? 0 : -1);
            }
        }
        for (int i = 0; i < 4; i++) {
            FairTables x = Fairs.withBooks(1, false, false);
            Due.gives("grant for tongue " + i, x, x.grant(0, 0, 255, 1 << i, 15, 3, 3), 0);
            Due.gives("grant for form " + i, x, x.grant(1, 0, 255, 15, 1 << i, 3, 3), 1);
            Due.gives("may for all tongues but " + i, x, x.may(0, 0, 255, 15 - (1 << i), 15, 3, 3, 0), 1);
            Due.gives("may for all forms but " + i, x, x.may(1, 0, 255, 15, 15 - (1 << i), 3, 3, 0), 1);
            for (int j = 0; j < 4; j++) {
                Due.gives("may for tongue " + j, x, x.may(0, 0, 255, 1 << j, 15, 3, 3, 0), i == j ? 0 : 1);
                Due.gives("may for form " + j, x, x.may(1, 0, 255, 15, 1 << j, 3, 3, 0), i == j ? 0 : 1);
                Due.is("has in tongue " + j, x.has(0, 0, j, 0, 3), i == j ? 0 : -1);
                Due.is("has in form " + j, x.has(1, 0, 0, j, 3), i == j ? 0 : -1);
            }
        }
    }

    /** "from a day to a day (0 to 9,999)" */
    private static void grantsOnTheFirstAndTheLastDay() {
        FairTables x = Fairs.withBooks(2, false);
        Due.gives("grant on day 0", x, x.grant(0, 0, 1, 1, 1, 0, 0), 0);
        Due.gives("grant on day 9999", x, x.grant(0, 1, 1, 1, 1, 9_999, 9_999), 1);
        Due.gives("has on day 0", x, x.has(0, 0, 0, 0, 0), 0);
        Due.none("has on day 1", x, x.has(0, 0, 0, 0, 1), 9);
        Due.none("has on day 9998", x, x.has(0, 0, 0, 0, 9_998), 9);
        Due.gives("has on day 9999", x, x.has(0, 0, 0, 0, 9_999), 1);
        Due.none("grant from day 0", x, x.grant(0, 0, 1, 1, 1, 0, 9_998), 10);
        Due.none("grant to day 9999", x, x.grant(0, 0, 1, 1, 1, 1, 9_999), 10);
        Due.gives("grant of all days between", x, x.grant(0, 0, 1, 1, 1, 1, 9_998), 2);
        Due.none("grant from -1 to -1", x, x.grant(0, 0, 2, 1, 1, -1, -1), 2);
        Due.none("grant from 10000 to 10000", x, x.grant(0, 0, 2, 1, 1, 10_000, 10_000), 2);
        Due.none("grant from MIN to MAX", x, x.grant(0, 0, 2, 1, 1, MIN, MAX), 2);
        Due.none("grant from MAX to MIN", x, x.grant(0, 0, 2, 1, 1, MAX, MIN), 2);
        Due.gives("the next that is made", x, x.grant(0, 0, 2, 1, 1, 0, 9_999), 3);
    }

    /** "GRANTS, at most 60": of all BOOKS together, five of each. */
    private static void grantsOfAllBooksAreSixty() {
        FairTables x = Fairs.withBooks(1, new boolean[12]);
        for (int g = 0; g < 60; g++) {
            Due.gives("grant", x, x.grant(g % 12, 0, 1, 1, 1, g, g), g);
        }
        for (int book = 0; book < 12; book++) {
            Due.none("a grant more of book " + book, x, x.grant(book, 0, 1, 1, 1, 99, 99), 7);
        }
        Due.done("end(59, 0)", x, x.end(59, 0));
        Due.not("end(60, 0)", x, x.end(60, 0), 1);
    }

    private static void grantRefuses() {
        FairTables x = Fairs.withBooks(1, false, true);
        for (int bad : new int[] {-1, 2, 12, MIN, MAX}) {
            Due.none("grant of book " + bad, x, x.grant(bad, 0, 0, 1, 1, 0, 0), 1);
        }
        for (int bad : new int[] {-1, 1, 10, MIN, MAX}) {
            Due.none("grant to editor " + bad, x, x.grant(0, bad, 0, 1, 1, 0, 0), 1);
        }
        for (int bad : new int[] {0, -1, 256, MIN, MAX}) {
            Due.none("grant for lands " + bad, x, x.grant(0, 0, bad, 1, 1, 0, 0), 2);
        }
        for (int bad : new int[] {0, -1, 16, MIN, MAX}) {
            Due.none("grant for tongues " + bad, x, x.grant(0, 0, 1, bad, 1, 0, 0), 2);
            Due.none("grant for forms " + bad, x, x.grant(0, 0, 1, 1, bad, 0, 0), 2);
        }
        Due.none("grant from -1", x, x.grant(0, 0, 1, 1, 1, -1, 0), 2);
        Due.none("grant to 10000", x, x.grant(0, 0, 1, 1, 1, 0, 10_000), 2);
        Due.none("grant from 10000", x, x.grant(0, 0, 1, 1, 1, 10_000, 10_000), 2);
        Due.none("grant from 6 to 5", x, x.grant(0, 0, 1, 1, 1, 6, 5), 2);
        Due.gives("the first that is made", x, x.grant(0, 0, 255, 15, 15, 0, 9_999), 0);
        // A secret book's list and options are no matter of GRANTS.
        Due.done("option", x, x.option(1, 0, 0, 100_000));
        Due.gives("grant of a secret book", x, x.grant(1, 0, 1, 1, 1, 0, 0), 1);
    }

    private static void endFreesDays() {
        FairTables x = Fairs.withBooks(2, false);
        x.grant(0, 0, 1, 1, 1, 10, 20);
        Due.done("end(0, 15)", x, x.end(0, 15));
        Due.gives("has on day 14", x, x.has(0, 0, 0, 0, 14), 0);
        Due.none("has on day 15", x, x.has(0, 0, 0, 0, 15), 9);
        Due.none("grant from 14", x, x.grant(0, 1, 1, 1, 1, 14, 16), 10);
        Due.gives("grant from 15", x, x.grant(0, 1, 1, 1, 1, 15, 20), 1);
        Due.gives("has on day 15", x, x.has(0, 0, 0, 0, 15), 1);
        // Ended on its first day, or ahead of it: none of its days is left.
        x.grant(0, 0, 2, 1, 1, 10, 20);
        Due.done("end(2, 10)", x, x.end(2, 10));
        Due.none("has on day 10", x, x.has(0, 1, 0, 0, 10), 9);
        Due.gives("grant from 0 to 9999", x, x.grant(0, 1, 2, 1, 1, 0, 9_999), 3);
        Due.done("end(3, 0)", x, x.end(3, 0));
        Due.none("has on day 0", x, x.has(0, 1, 0, 0, 0), 9);
        // Ended behind its last day: it is as it was.
        x.grant(0, 0, 4, 1, 1, 10, 20);
        Due.done("end(4, 9999)", x, x.end(4, 9_999));
        Due.gives("has on day 20", x, x.has(0, 2, 0, 0, 20), 0);
        Due.none("has on day 21", x, x.has(0, 2, 0, 0, 21), 9);
        Due.gives("grant from 21", x, x.grant(0, 1, 4, 1, 1, 21, 30), 5);
    }

    /** "A GRANT is ended on a day: days from that on are free again" */
    private static void endOnTheEdges() {
        // From, one ahead of it, one behind it; to, one ahead of it, one behind it; the first day and the last.
        int[] ends = {10, 9, 11, 20, 19, 21, 0, 9_999};
        for (int end : ends) {
            FairTables x = Fairs.withBooks(2, false);
            Due.gives("grant from 10 to 20", x, x.grant(0, 1, 1, 1, 1, 10, 20), 0);
            Due.done("end(0, " + end + ")", x, x.end(0, end));
            for (int day = 8; day <= 22; day++) {
                boolean sold = day >= 10 && day <= 20 && day < end;
                Due.is("has on day " + day, x.has(0, 0, 0, 0, day), sold ? 1 : -1);
                Due.gives("may on day " + day, x, x.may(0, 0, 1, 1, 1, day, day, 0), sold ? 0 : 1);
                Due.done("left on day " + day, x, x.left(0, 1, 1, 1, day));
                Due.is("upper() on day " + day, x.upper(), sold ? 0 : 1);
            }
            Due.not("end(0, " + end + ") once more", x, x.end(0, end), 8);
        }
        FairTables y = Fairs.withBooks(1, false);
        y.grant(0, 0, 1, 1, 1, 0, 9_999);
        Due.done("end(0, 9999)", y, y.end(0, 9_999));
        Due.gives("has on day 9998", y, y.has(0, 0, 0, 0, 9_998), 0);
        Due.none("has on day 9999", y, y.has(0, 0, 0, 0, 9_999), 9);
        // One GRANT alone is ended.
        y.grant(0, 0, 2, 1, 1, 0, 9_999);
        y.grant(0, 0, 4, 1, 1, 0, 9_999);
        Due.done("end(1, 0)", y, y.end(1, 0));
        Due.none("has of the ended one", y, y.has(0, 1, 0, 0, 0), 9);
        Due.gives("has of the next one", y, y.has(0, 2, 0, 0, 9_999), 0);
    }

    private static void endRefuses() {
        FairTables x = Fairs.withBooks(1, false);
        x.grant(0, 0, 1, 1, 1, 10, 20);
        for (int bad : new int[] {-1, 1, 60, MIN, MAX}) {
            Due.not("end(" + bad + ", -1)", x, x.end(bad, -1), 1);
        }
        for (int bad : new int[] {-1, 10_000, MIN, MAX}) {
            Due.not("end(0, " + bad + ")", x, x.end(0, bad), 2);
        }
        Due.gives("has on day 20", x, x.has(0, 0, 0, 0, 20), 0);
        Due.done("end(0, 20)", x, x.end(0, 20));
        Due.not("end(0, 20)", x, x.end(0, 20), 8);
        Due.not("end(0, 11)", x, x.end(0, 11), 8);
        Due.not("end(0, 10000)", x, x.end(0, 10_000), 2);
        Due.gives("has on day 19", x, x.has(0, 0, 0, 0, 19), 0);
    }

    private static void hasTellsTheEditor() {
        FairTables x = Fairs.withBooks(10, false, true);
        x.grant(0, 9, 128, 8, 8, 9_999, 9_999);
        x.grant(1, 3, 1, 1, 1, 0, 0);
        x.grant(0, 4, 2, 4, 1, 5, 6);
        Due.gives("has(0, 7, 3, 3, 9999)", x, x.has(0, 7, 3, 3, 9_999), 9);
        Due.gives("has(1, 0, 0, 0, 0)", x, x.has(1, 0, 0, 0, 0), 3);
        Due.none("has(0, 0, 0, 0, 0)", x, x.has(0, 0, 0, 0, 0), 9);
        for (int land = 0; land < 8; land++) {
            for (int tongue = 0; tongue < 4; tongue++) {
                for (int form = 0; form < 4; form++) {
                    boolean there = land == 1 && tongue == 2 && form == 0;
                    Due.is("has", x.has(0, land, tongue, form, 6), there ? 4 : -1);
                    Due.is("status()", x.status(), there ? 0 : 9);
                }
            }
        }
        Due.none("has on day 4", x, x.has(0, 1, 2, 0, 4), 9);
        Due.none("has on day 7", x, x.has(0, 1, 2, 0, 7), 9);
    }

    private static void hasRefuses() {
        FairTables x = Fairs.withBooks(1, false);
        for (int bad : new int[] {-1, 1, MIN, MAX}) {
            Due.none("has of book " + bad, x, x.has(bad, 8, 0, 0, 0), 1);
        }
        for (int bad : new int[] {-1, 8, 32, MIN, MAX}) {
            Due.none("has in land " + bad, x, x.has(0, bad, 0, 0, 0), 2);
        }
        for (int bad : new int[] {-1, 4, 32, MIN, MAX}) {
            Due.none("has in tongue " + bad, x, x.has(0, 0, bad, 0, 0), 2);
            Due.none("has in form " + bad, x, x.has(0, 0, 0, bad, 0), 2);
        }
        for (int bad : new int[] {-1, 10_000, MIN, MAX}) {
            Due.none("has on day " + bad, x, x.has(0, 0, 0, 0, bad), 2);
        }
    }

    private static void fraction(FairTables x, long upper, long lower) {
        Due.is("status()", x.status(), 0);
        Due.is("upper()", x.upper(), upper);
        Due.is("lower()", x.lower(), lower);
    }

    private static void leftIsAFraction() {
        FairTables x = Fairs.withBooks(1, false, false);
        Due.done("left", x, x.left(0, 255, 15, 15, 0));
        fraction(x, 1, 1);
        x.grant(0, 0, 1, 1, 1, 5, 10);
        x.left(0, 255, 15, 15, 5);
        fraction(x, 127, 128);
        x.left(0, 255, 15, 15, 4);
        fraction(x, 1, 1);
        x.left(0, 255, 15, 15, 11);
        fraction(x, 1, 1);
        x.left(1, 1, 1, 1, 5);
        fraction(x, 1, 1);
        x.left(0, 1, 1, 1, 10);
        fraction(x, 0, 1);
        x.left(0, 7, 1, 1, 10);
        fraction(x, 2, 3);
        x.grant(0, 0, 6, 1, 1, 10, 10);
        x.left(0, 15, 1, 1, 10);
        fraction(x, 1, 4);
        x.left(0, 15, 3, 1, 10);
        fraction(x, 5, 8);
        x.left(0, 15, 3, 7, 10);
        fraction(x, 7, 8);
        x.end(1, 10);
        x.left(0, 15, 3, 1, 10);
        fraction(x, 7, 8);
        x.left(0, 6, 1, 1, 10);
        fraction(x, 1, 1);
    }

    /** All 128 CELLS: none, one, all but one and all of them are sold. */
    private static void leftOfAllCells() {
        FairTables x = Fairs.withBooks(1, false);
        x.left(0, 255, 15, 15, 9_999);
        fraction(x, 1, 1);
        x.grant(0, 0, 128, 8, 8, 9_999, 9_999);
        x.left(0, 255, 15, 15, 9_999);
        fraction(x, 127, 128);
        x.left(0, 255, 15, 15, 9_998);
        fraction(x, 1, 1);
        x.left(0, 128, 8, 8, 9_999);
        fraction(x, 0, 1);
        x.left(0, 128, 8, 12, 9_999);
        fraction(x, 1, 2);
        x.grant(0, 0, 127, 15, 15, 9_999, 9_999);
        x.left(0, 255, 15, 15, 9_999);
        fraction(x, 15, 128);
        x.grant(0, 0, 128, 7, 15, 9_999, 9_999);
        x.left(0, 255, 15, 15, 9_999);
        fraction(x, 3, 128);
        x.grant(0, 0, 128, 8, 6, 9_999, 9_999);
        x.left(0, 255, 15, 15, 9_999);
        fraction(x, 1, 128);
        x.left(0, 128, 8, 1, 9_999);
        fraction(x, 1, 1);
        x.grant(0, 0, 128, 8, 1, 9_999, 9_999);
        x.left(0, 255, 15, 15, 9_999);
        fraction(x, 0, 1);
        x.left(0, 255, 15, 15, 0);
        fraction(x, 1, 1);
    }

    /** "without a common divisor with the lower one": each number of LANDS, TONGUES and FORMS, and each sold. */
    private static void leftHasNoCommonDivisor() {
        for (int sold = 1; sold <= 8; sold++) {
            FairTables x = Fairs.withBooks(1, false);
            x.grant(0, 0, (1 << sold) - 1, 1, 3, 0, 0);
            for (int lands = 1; lands <= 8; lands++) {
                for (int tongues = 1; tongues <= 4; tongues++) {
                    for (int forms = 1; forms <= 4; forms++) {
                        long all = (long) lands * tongues * forms;
                        long free = all - Math.min(lands, sold) * Math.min(2, forms);
                        long divisor = BigInteger.valueOf(all).gcd(BigInteger.valueOf(free)).longValue();
                        x.left(0, (1 << lands) - 1, (1 << tongues) - 1, (1 << forms) - 1, 0);
                        Due.is("upper() of " + free + " by " + all, x.upper(), free / divisor);
                        Due.is("lower() of " + free + " by " + all, x.lower(), all / divisor);
                    }
                }
            }
        }
    }

    private static void leftRefuses() {
        FairTables x = Fairs.withBooks(1, false);
        x.grant(0, 0, 1, 1, 1, 0, 0);
        x.left(0, 3, 1, 1, 0);
        fraction(x, 1, 2);
        for (int bad : new int[] {-1, 1, MIN, MAX}) {
            Due.not("left of book " + bad, x, x.left(bad, 0, 1, 1, 0), 1);
        }
        for (int bad : new int[] {0, -1, 256, MIN, MAX}) {
            Due.not("left for lands " + bad, x, x.left(0, bad, 1, 1, 0), 2);
        }
        for (int bad : new int[] {0, -1, 16, MIN, MAX}) {
            Due.not("left for tongues " + bad, x, x.left(0, 1, bad, 1, 0), 2);
            Due.not("left for forms " + bad, x, x.left(0, 1, 1, bad, 0), 2);
        }
        for (int bad : new int[] {-1, 10_000, MIN, MAX}) {
            Due.not("left on day " + bad, x, x.left(0, 1, 1, 1, bad), 2);
        }
        // The FRACTION is that told latest with STATUS 0.
        Due.is("upper()", x.upper(), 1);
        Due.is("lower()", x.lower(), 2);
    }

    private static void optionsBarOthers() {
        FairTables x = Fairs.withBooks(3, false, false);
        Due.done("option(0, 1, 10, 20)", x, x.option(0, 1, 10, 20));
        for (int minute : new int[] {9, 10, 15, 20, 21}) {
            int other = minute >= 10 && minute <= 20 ? 0 : 1;
            Due.gives("may of another one at " + minute, x, x.may(0, 0, 1, 1, 1, 0, 0, minute), other);
            Due.gives("may of theirs at " + minute, x, x.may(0, 1, 1, 1, 1, 0, 0, minute), 1);
            Due.gives("may of another book at " + minute, x, x.may(1, 0, 1, 1, 1, 0, 0, minute), 1);
        }
        Due.done("option(0, 2, 20, 20)", x, x.option(0, 2, 20, 20));
        Due.gives("may at 20 with two options", x, x.may(0, 1, 1, 1, 1, 0, 0, 20), 0);
        Due.gives("may at 20 with two options", x, x.may(0, 2, 1, 1, 1, 0, 0, 20), 0);
        Due.gives("may at 19", x, x.may(0, 1, 1, 1, 1, 0, 0, 19), 1);
        Due.done("option(1, 0, 0, 100000)", x, x.option(1, 0, 0, 100_000));
        Due.gives("may at 0", x, x.may(1, 1, 1, 1, 1, 0, 0, 0), 0);
        Due.gives("may at 100000", x, x.may(1, 1, 1, 1, 1, 0, 0, 100_000), 0);
    }

    /** "while one lasts (both counted), nobody else is OFFERED the BOOK": at the first and the last minute, too. */
    private static void optionsOfOneMinute() {
        for (int minute : new int[] {0, 1, 99_999, 100_000}) {
            FairTables x = Fairs.withBooks(2, false);
            Due.done("option of one minute", x, x.option(0, 1, minute, minute));
            for (int at = Math.max(0, minute - 1); at <= Math.min(100_000, minute + 1); at++) {
                Due.gives("may of another one at " + at, x, x.may(0, 0, 1, 1, 1, 0, 0, at), at == minute ? 0 : 1);
                Due.gives("may of theirs at " + at, x, x.may(0, 1, 1, 1, 1, 0, 0, at), 1);
            }
        }
    }

    /** "OPTIONS, at most 30": of all BOOKS together, also when they last no more. */
    private static void optionsOfAllBooksAreThirty() {
        FairTables x = Fairs.withBooks(10, new boolean[12]);
        for (int o = 0; o < 30; o++) {
            Due.done("option " + o, x, x.option(o % 12, o % 10, 1, 2));
        }
        Due.gives("an offer that moves the minute", x, x.offer(0, 0, 1, 1, 1, 0, 0, 50, 60), 0);
        for (int book = 0; book < 12; book++) {
            Due.not("an option more of book " + book, x, x.option(book, 0, 0, 0), 7);
        }
        // Option 29 is the last of book 5, to editor 9; 5 and 17 are to editors 5 and 7.
        Due.gives("may of editor 9", x, x.may(5, 9, 1, 1, 1, 0, 0, 2), 0);
        Due.gives("may of nobody's minute", x, x.may(5, 9, 1, 1, 1, 0, 0, 3), 1);
    }

    private static void optionRefuses() {
        FairTables x = Fairs.withBooks(2, false);
        for (int bad : new int[] {-1, 1, MIN, MAX}) {
            Due.not("option of book " + bad, x, x.option(bad, 0, 5, 4), 1);
        }
        for (int bad : new int[] {-1, 2, MIN, MAX}) {
            Due.not("option to editor " + bad, x, x.option(0, bad, 5, 4), 1);
        }
        Due.not("option from 5 to 4", x, x.option(0, 0, 5, 4), 2);
        Due.not("option from -1", x, x.option(0, 0, -1, 4), 2);
        Due.not("option to 100001", x, x.option(0, 0, 0, 100_001), 2);
        Due.not("option from 100001", x, x.option(0, 0, 100_001, 100_001), 2);
        Due.not("option from MIN to MIN", x, x.option(0, 0, MIN, MIN), 2);
        Due.gives("may behind refused options", x, x.may(0, 1, 1, 1, 1, 0, 0, 3), 1);
        for (int o = 0; o < 30; o++) {
            Due.done("option " + o, x, x.option(0, 0, o, o));
        }
        Due.not("an option more", x, x.option(0, 0, 40, 40), 7);
        Due.not("an option more from 5 to 4", x, x.option(0, 0, 5, 4), 2);
        Due.gives("may at 29", x, x.may(0, 1, 1, 1, 1, 0, 0, 29), 0);
        Due.gives("may at 40", x, x.may(0, 1, 1, 1, 1, 0, 0, 40), 1);
    }

    private static void mayNeedsAllThree() {
        FairTables x = Fairs.withBooks(2, true);
        Due.gives("may, not listed", x, x.may(0, 0, 1, 1, 1, 0, 0, 0), 0);
        x.list(0, 0, true);
        Due.gives("may, listed", x, x.may(0, 0, 1, 1, 1, 0, 0, 0), 1);
        Due.gives("may of another one", x, x.may(0, 1, 1, 1, 1, 0, 0, 0), 0);
        x.option(0, 1, 0, 0);
        Due.gives("may, barred", x, x.may(0, 0, 1, 1, 1, 0, 0, 0), 0);
        // An option of theirs doesn't put them on the list.
        Due.gives("may with an option of theirs", x, x.may(0, 1, 1, 1, 1, 0, 0, 0), 0);
        x.grant(0, 1, 1, 1, 1, 0, 5);
        Due.gives("may with a clash", x, x.may(0, 0, 1, 1, 1, 5, 9, 1), 0);
        Due.gives("may without a clash", x, x.may(0, 0, 1, 1, 1, 6, 9, 1), 1);
        x.end(0, 5);
        Due.gives("may on a day that is free again", x, x.may(0, 0, 1, 1, 1, 5, 9, 1), 1);
        x.grant(0, 0, 2, 1, 1, 0, 5);
        // A clash with what is their own counts, too.
        Due.gives("may with a clash with theirs", x, x.may(0, 0, 2, 1, 1, 5, 9, 1), 0);
        // may() knows no minute that is gone.
        Due.gives("an offer", x, x.offer(0, 0, 4, 1, 1, 0, 0, 50, 60), 0);
        Due.gives("may at 1", x, x.may(0, 0, 4, 1, 1, 0, 0, 1), 1);
    }

    private static void mayRefuses() {
        FairTables x = Fairs.withBooks(1, true);
        for (int bad : new int[] {-1, 1, MIN, MAX}) {
            Due.none("may of book " + bad, x, x.may(bad, 0, 0, 1, 1, 0, 0, 0), 1);
            Due.none("may of editor " + bad, x, x.may(0, bad, 0, 1, 1, 0, 0, 0), 1);
        }
        for (int bad : new int[] {0, -1, 256, MIN, MAX}) {
            Due.none("may for lands " + bad, x, x.may(0, 0, bad, 1, 1, 0, 0, 0), 2);
        }
        for (int bad : new int[] {0, -1, 16, MIN, MAX}) {
            Due.none("may for tongues " + bad, x, x.may(0, 0, 1, bad, 1, 0, 0, 0), 2);
            Due.none("may for forms " + bad, x, x.may(0, 0, 1, 1, bad, 0, 0, 0), 2);
        }
        for (int bad : new int[] {-1, 10_000, MIN, MAX}) {
            Due.none("may from " + bad, x, x.may(0, 0, 1, 1, 1, bad, 5, 0), 2);
            Due.none("may to " + bad, x, x.may(0, 0, 1, 1, 1, 5, bad, 0), 2);
        }
        Due.none("may from 6 to 5", x, x.may(0, 0, 1, 1, 1, 6, 5, 0), 2);
        for (int bad : new int[] {-1, 100_001, MIN, MAX}) {
            Due.none("may at minute " + bad, x, x.may(0, 0, 1, 1, 1, 0, 0, bad), 2);
        }
        Due.gives("may at 100000", x, x.may(0, 0, 1, 1, 1, 0, 9_999, 100_000), 0);
    }
}
