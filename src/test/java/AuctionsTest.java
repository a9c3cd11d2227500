import java.util.Random;

/** Promises 25 and 26: AUCTIONS by rounds with a FLOOR and TOPPING, and what they brought. */
public final class AuctionsTest {
    private static final int MIN = Integer.MIN_VALUE;
    private static final int MAX = Integer.MAX_VALUE;

    public static void main(String[] args) {
        withoutAFloor();
        withAFloor();
        toppingIsRoundedUp();
        limitsJustEnoughAndOneBelow();
        theFloorHoldsWhenNobodyBids();
        theFloorIsUpToAMillion();
        theFloorsEditorIsNotAsked();
        nobodyBids();
        statusIsAskedInItsOrder();
        limitsCanBeWrong();
        limitsAreZeroToAMillion();
        limitsInTraysOfEachSort();
        asManyNumbersAsEditors();
        moreNumbersThanEditors();
        soldRefuses();
        soldIsOfTheLatestThatWasDone();
        stepsAreOneToAHundredThousand();
        toppingIsUpToFifty();
        longAuctions();
        manyAuctions();
        Due.end();
    }

    private static FairTables fair(int sort, long... limits) {
        FairTables x = Fairs.withBooks(limits.length);
        limits(x, sort, limits);
        return x;
    }

    private static void limits(FairTables x, int sort, long... limits) {
        x.tray(0, sort, limits.length);
        for (int e = 0; e < limits.length; e++) {
            x.write(0, e, limits[e]);
        }
    }

    private static void brought(FairTables x, int price, int rounds, int topped) {
        Due.gives("sold(0)", x, x.sold(0), price);
        Due.gives("sold(1)", x, x.sold(1), rounds);
        Due.gives("sold(2)", x, x.sold(2), topped);
    }

    private static void withoutAFloor() {
        FairTables x = fair(2, 100, 65, 30);
        Due.gives("auction", x, x.auction(0, 0, -1, 10, 10), 0);
        brought(x, 60, 4, 0);
        // 30 by 0 at once, 60 by 1; then 90 by 0; 1 is out.
        Due.gives("auction by 30", x, x.auction(0, 0, -1, 10, 30), 0);
        brought(x, 90, 3, 0);
        Due.gives("auction by 100", x, x.auction(0, 0, -1, 0, 100), 0);
        brought(x, 100, 2, 0);
        // One who is asked late may still have it: 1 by 0, 2 by 1, 3 by 2, 4 by 0, 5 by 1, nobody goes on.
        FairTables y = fair(0, 5, 5, 5);
        Due.gives("auction by 1", y, y.auction(0, 0, -1, 0, 1), 1);
        brought(y, 5, 3, 0);
        // One who is outbid in a round is asked in the same round still: 10 by 0, 20 by 1; 30 by 0, 40 by 1.
        FairTables w = fair(2, 45, 45);
        Due.gives("auction of two", w, w.auction(0, 0, -1, 0, 10), 1);
        brought(w, 40, 3, 0);
        FairTables z = fair(2, 0, 0, 7);
        Due.gives("auction with one bidder", z, z.auction(0, 0, -1, 50, 7), 2);
        brought(z, 7, 2, 0);
    }

    private static void withAFloor() {
        FairTables x = fair(2, 100, 65, 30);
        Due.gives("auction, topped", x, x.auction(0, 50, 0, 10, 10), 0);
        brought(x, 66, 2, 1);
        // The floor of 30 by 2: 40 by 0, 50 by 1, 60 by 0; 2 can't top 60.
        Due.gives("auction, not topped", x, x.auction(0, 30, 2, 0, 10), 0);
        brought(x, 60, 3, 0);
        // The limit is just enough to top: 40 and 25 in a hundred of it.
        FairTables y = fair(2, 50, 40);
        Due.gives("auction, just topped", y, y.auction(0, 30, 0, 25, 10), 0);
        brought(y, 50, 2, 1);
        Due.gives("auction, just not topped", y, y.auction(0, 30, 0, 26, 10), 1);
        brought(y, 40, 2, 0);
    }

    private static void toppingIsRoundedUp() {
        FairTables x = fair(2, 1_000_000, 11);
        // 11 and 1 in a hundred of it: 11.11.
        Due.gives("auction", x, x.auction(0, 1, 0, 1, 10), 0);
        brought(x, 12, 2, 1);
        Due.gives("auction", x, x.auction(0, 1, 0, 0, 10), 0);
        brought(x, 11, 2, 1);
        Due.gives("auction", x, x.auction(0, 1, 0, 50, 10), 0);
        brought(x, 17, 2, 1);
        limits(x, 2, 1_000_000, 100);
        Due.gives("auction", x, x.auction(0, 1, 0, 33, 99), 0);
        brought(x, 133, 2, 1);
        limits(x, 2, 1_000_000, 666_666);
        Due.gives("auction", x, x.auction(0, 666_665, 0, 50, 1), 0);
        brought(x, 999_999, 2, 1);
        limits(x, 2, 1_000_000, 666_667);
        Due.gives("auction", x, x.auction(0, 666_666, 0, 50, 1), 1);
        brought(x, 666_667, 2, 0);
        limits(x, 2, 1_000_000, 1_000_000);
        Due.gives("auction", x, x.auction(0, 999_999, 0, 0, 1), 0);
        brought(x, 1_000_000, 2, 1);
    }

    /** "if their LIMIT is not below the BEST BID and the STEP, they bid just that, else they are out for good" */
    private static void limitsJustEnoughAndOneBelow() {
        FairTables x = fair(2, 10);
        Due.gives("a limit at the step", x, x.auction(0, 0, -1, 0, 10), 0);
        brought(x, 10, 2, 0);
        Due.none("a limit below the step", x, x.auction(0, 0, -1, 0, 11), 9);
        // 10 by 0, then 20 by 1 with a limit of 20, and not with one of 19.
        FairTables y = fair(2, 10, 20);
        Due.gives("a limit at the bid and the step", y, y.auction(0, 0, -1, 0, 10), 1);
        brought(y, 20, 2, 0);
        limits(y, 2, 10, 19);
        Due.gives("a limit below the bid and the step", y, y.auction(0, 0, -1, 0, 10), 0);
        brought(y, 10, 2, 0);
        // The one with the best bid does not outbid it in the next round: 20 by 1, 30 by 0, then nobody.
        limits(y, 2, 30, 29);
        Due.gives("two rounds of bids", y, y.auction(0, 0, -1, 0, 10), 0);
        brought(y, 30, 3, 0);
        limits(y, 2, 29, 30);
        Due.gives("one round of bids", y, y.auction(0, 0, -1, 0, 10), 1);
        brought(y, 20, 2, 0);
        // With a floor of 5 by 0: 15 by 1 if the limit is 15.
        limits(y, 2, 5, 15);
        Due.gives("a limit at the floor and the step", y, y.auction(0, 5, 0, 0, 10), 1);
        brought(y, 15, 2, 0);
        limits(y, 2, 5, 14);
        Due.gives("a limit below the floor and the step", y, y.auction(0, 5, 0, 0, 10), 0);
        brought(y, 5, 1, 0);
        // One who does not bid, between two who do.
        FairTables z = fair(2, 3, 0, 3);
        Due.gives("a limit of 0", z, z.auction(0, 0, -1, 0, 1), 0);
        brought(z, 3, 3, 0);
    }

    /** "a FLOOR (0 to 1,000,000; 0: none) by an EDITOR" */
    private static void theFloorIsUpToAMillion() {
        FairTables x = fair(2, 1_000_000, 1_000_000);
        Due.gives("a floor of 1", x, x.auction(0, 1, 1, 0, 100_000), 1);
        brought(x, 100_001, 2, 1);
        Due.gives("a floor of 1000000", x, x.auction(0, 1_000_000, 1, 0, 1), 1);
        brought(x, 1_000_000, 1, 0);
        Due.none("a floor of 1000001", x, x.auction(0, 1_000_001, 1, 0, 1), 2);
        Due.none("a floor of -1", x, x.auction(0, -1, 1, 0, 1), 2);
        Due.none("a floor of 0 by an editor", x, x.auction(0, 0, 1, 0, 1), 2);
        Due.none("a floor of 1 by nobody", x, x.auction(0, 1, -1, 0, 1), 2);
        Due.none("a floor of 1000000 by nobody", x, x.auction(0, 1_000_000, -1, 0, 1), 2);
        // A bid just up to a million: a floor of 999,999 and a step of 1, and not of 2.
        Due.gives("a bid of 1000000", x, x.auction(0, 999_999, 1, 1, 1), 0);
        brought(x, 1_000_000, 2, 0);
        Due.gives("no bid of 1000001", x, x.auction(0, 999_999, 1, 1, 2), 1);
        brought(x, 999_999, 1, 0);
        // By the first and by the last of ten.
        FairTables y = fair(2, 9, 9, 9, 9, 9, 9, 9, 9, 9, 9);
        Due.gives("a floor by 9", y, y.auction(0, 9, 9, 0, 1), 9);
        Due.none("a floor by 10", y, y.auction(0, 9, 10, 0, 1), 1);
        Due.gives("a floor by 0", y, y.auction(0, 9, 0, 0, 1), 0);
        Due.none("a floor by -2", y, y.auction(0, 9, -2, 0, 1), 1);
    }

    private static void theFloorHoldsWhenNobodyBids() {
        FairTables x = fair(2, 70, 65, 90);
        Due.gives("auction", x, x.auction(0, 70, 0, 10, 30), 0);
        brought(x, 70, 1, 0);
        FairTables y = fair(2, 1_000_000);
        Due.gives("auction", y, y.auction(0, 1_000_000, 0, 50, 100_000), 0);
        brought(y, 1_000_000, 1, 0);
    }

    private static void theFloorsEditorIsNotAsked() {
        // 1 bids 20 and 2 bids 30; the floor's 0 could, but is not asked: 1 bids 40, 2 bids 50.
        FairTables x = fair(2, 1_000, 45, 55);
        Due.gives("auction", x, x.auction(0, 10, 0, 50, 10), 0);
        brought(x, 75, 3, 1);
        // The same when the floor's editor comes last.
        FairTables y = fair(2, 45, 55, 1_000);
        Due.gives("auction", y, y.auction(0, 10, 2, 50, 10), 2);
        brought(y, 75, 3, 1);
    }

    private static void nobodyBids() {
        FairTables x = fair(2, 9, 0);
        Due.none("auction", x, x.auction(0, 0, -1, 0, 10), 9);
        Due.none("sold(0)", x, x.sold(0), 9);
        FairTables y = new FairTables();
        y.tray(3, 0, 0);
        Due.none("auction without editors", y, y.auction(3, 0, -1, 0, 1), 9);
    }

    private static void statusIsAskedInItsOrder() {
        FairTables x = fair(2, 5, 5);
        for (int bad : new int[] {-1, 4, MIN, MAX}) {
            Due.none("auction with tray " + bad, x, x.auction(bad, -1, -1, 99, 0), 1);
        }
        for (int bad : new int[] {-2, 2, 10, MIN, MAX}) {
            Due.none("auction by " + bad, x, x.auction(0, -1, bad, 99, 0), 1);
            Due.none("auction by " + bad, x, x.auction(0, 0, bad, 0, 1), 1);
        }
        for (int bad : new int[] {-1, 1_000_001, MIN, MAX}) {
            Due.none("auction with floor " + bad, x, x.auction(1, bad, 0, 0, 1), 2);
        }
        for (int bad : new int[] {-1, 51, MIN, MAX}) {
            Due.none("auction with topping " + bad, x, x.auction(1, 1, 0, bad, 1), 2);
            Due.none("auction with topping " + bad, x, x.auction(1, 0, -1, bad, 1), 2);
        }
        for (int bad : new int[] {-1, 0, 100_001, MIN, MAX}) {
            Due.none("auction with step " + bad, x, x.auction(1, 1, 0, 0, bad), 2);
        }
        Due.none("a floor without an editor", x, x.auction(1, 5, -1, 0, 1), 2);
        Due.none("an editor without a floor", x, x.auction(1, 0, 0, 0, 1), 2);
        Due.none("auction with a missing tray", x, x.auction(1, 1, 0, 0, 1), 4);
        x.tray(1, 2, 1);
        x.write(1, 0, -1);
        Due.none("auction with too few numbers", x, x.auction(1, 1, 0, 0, 1), 5);
        x.tray(1, 2, 2);
        x.write(1, 0, -1);
        Due.none("auction with a limit below 0", x, x.auction(1, 0, -1, 0, 1), 2);
        Due.none("no auction was done", x, x.sold(0), 9);
    }

    private static void limitsCanBeWrong() {
        FairTables x = fair(3, 5, 1_000_001);
        Due.none("a limit above a million", x, x.auction(0, 0, -1, 0, 1), 2);
        limits(x, 3, 5, Long.MAX_VALUE);
        Due.none("a limit of 64 bits", x, x.auction(0, 0, -1, 0, 1), 2);
        limits(x, 3, 5, 1L << 32);
        Due.none("a limit that is 0 in 32 bits", x, x.auction(0, 0, -1, 0, 1), 2);
        limits(x, 3, 5, Long.MIN_VALUE);
        Due.none("a limit far below 0", x, x.auction(0, 0, -1, 0, 1), 2);
        limits(x, 3, 5, 9);
        Due.none("the floor's limit below the floor", x, x.auction(0, 6, 0, 0, 1), 2);
        Due.gives("the floor's limit at the floor", x, x.auction(0, 5, 0, 0, 1), 1);
        brought(x, 6, 2, 0);
        // Another one's limit below the floor is no fault.
        Due.gives("auction", x, x.auction(0, 9, 1, 0, 1), 1);
        brought(x, 9, 1, 0);
        limits(x, 2, 1_000_000, 1_000_000);
        Due.gives("the greatest limits", x, x.auction(0, 0, -1, 0, 100_000), 1);
        brought(x, 1_000_000, 6, 0);
    }

    /** "LIMITS of all EDITORS .. all 0 to 1,000,000, the FLOOR's own one not below the FLOOR": each of ten. */
    private static void limitsAreZeroToAMillion() {
        for (int e = 0; e < 10; e++) {
            FairTables x = fair(3, 5, 5, 5, 5, 5, 5, 5, 5, 5, 5);
            int other = e == 0 ? 1 : 0;
            for (long bad : new long[] {-1, 1_000_001, Long.MIN_VALUE, Long.MAX_VALUE, 1L << 32, (1L << 32) + 5}) {
                x.write(0, e, bad);
                Due.none("limit " + e + " is " + bad, x, x.auction(0, 0, -1, 0, 1), 2);
                Due.none("limit " + e + " is " + bad, x, x.auction(0, 5, other, 0, 1), 2);
                Due.none("limit " + e + " is " + bad, x, x.auction(0, 5, e, 0, 1), 2);
            }
            x.write(0, e, 4);
            Due.none("the floor's limit below it", x, x.auction(0, 5, e, 0, 1), 2);
            Due.gives("another one's limit below it", x, x.auction(0, 5, other, 0, 1), other);
            x.write(0, e, 5);
            Due.gives("the floor's limit at it", x, x.auction(0, 5, e, 0, 1), e);
            brought(x, 5, 1, 0);
            x.write(0, e, 1_000_000);
            Due.gives("a limit of 1000000", x, x.auction(0, 0, -1, 0, 100_000), e);
            brought(x, 100_000, 2, 0);
            x.write(0, e, 0);
            Due.gives("a limit of 0", x, x.auction(0, 0, -1, 0, 5), other);
            brought(x, 5, 2, 0);
        }
    }

    /** The LIMITS are the numbers as they were cut. */
    private static void limitsInTraysOfEachSort() {
        FairTables x = Fairs.withBooks(2);
        limits(x, 0, 127, 128);
        Due.none("128 in 8 bits is below 0", x, x.auction(0, 0, -1, 0, 1), 2);
        limits(x, 0, 127, 256 + 126);
        Due.gives("382 in 8 bits is 126", x, x.auction(0, 0, -1, 0, 1), 0);
        brought(x, 127, 65, 0);
        limits(x, 1, 32_768, 1);
        Due.none("32768 in 16 bits is below 0", x, x.auction(0, 0, -1, 0, 1), 2);
        limits(x, 1, 65_536 + 7, 1);
        Due.gives("65543 in 16 bits is 7", x, x.auction(0, 0, -1, 0, 7), 0);
        brought(x, 7, 2, 0);
        limits(x, 2, 1L << 31, 1);
        Due.none("2 to the 31 in 32 bits is below 0", x, x.auction(0, 0, -1, 0, 1), 2);
        limits(x, 2, (1L << 32) + 7, 1);
        Due.gives("2 to the 32 and 7 in 32 bits is 7", x, x.auction(0, 0, -1, 0, 7), 0);
        brought(x, 7, 2, 0);
        limits(x, 3, (1L << 32) + 7, 1);
        Due.none("2 to the 32 and 7 in 64 bits", x, x.auction(0, 0, -1, 0, 7), 2);
    }

    /** "5: fewer numbers than EDITORS": one fewer, just as many, one more, none at all, forty. */
    private static void asManyNumbersAsEditors() {
        for (int editors = 1; editors <= 10; editors++) {
            FairTables x = Fairs.withBooks(editors);
            limits(x, 2, new long[editors - 1]);
            Due.none("one number fewer than editors", x, x.auction(0, 0, -1, 0, 1), 5);
            x.tray(0, 2, 0);
            Due.none("no numbers", x, x.auction(0, 0, -1, 0, 1), 5);
            for (int many : new int[] {editors, editors + 1, 40}) {
                x.tray(0, 2, many);
                x.write(0, editors - 1, 1);
                Due.gives("a number for each editor", x, x.auction(0, 0, -1, 0, 1), editors - 1);
                brought(x, 1, 2, 0);
            }
        }
        FairTables y = new FairTables();
        y.tray(0, 2, 40);
        y.write(0, 0, 5);
        Due.none("no editors and forty numbers", y, y.auction(0, 0, -1, 0, 1), 9);
        Due.none("no editors and a floor by 0", y, y.auction(0, 1, 0, 0, 1), 1);
    }

    private static void moreNumbersThanEditors() {
        FairTables x = fair(2, 5, 3);
        limits(x, 2, 5, 3, -1, 99, 1_000_001);
        Due.gives("auction", x, x.auction(0, 0, -1, 0, 1), 0);
        brought(x, 3, 3, 0);
    }

    private static void soldRefuses() {
        FairTables x = fair(2, 5);
        for (int bad : new int[] {-1, 3, MIN, MAX}) {
            Due.none("sold(" + bad + ")", x, x.sold(bad), 2);
        }
        for (int what = 0; what < 3; what++) {
            Due.none("sold(" + what + ")", x, x.sold(what), 9);
        }
        x.auction(0, 0, -1, 0, 1);
        brought(x, 1, 2, 0);
        Due.none("sold(3)", x, x.sold(3), 2);
    }

    private static void soldIsOfTheLatestThatWasDone() {
        FairTables x = fair(2, 50, 40);
        x.auction(0, 30, 0, 25, 10);
        brought(x, 50, 2, 1);
        Due.none("auction", x, x.auction(0, 0, -1, 0, 60), 9);
        Due.none("auction", x, x.auction(0, 0, -1, 51, 1), 2);
        Due.none("auction", x, x.auction(1, 0, -1, 0, 1), 4);
        x.write(0, 0, 0);
        x.editor();
        brought(x, 50, 2, 1);
        Due.none("auction", x, x.auction(0, 0, -1, 0, 1), 5);
        brought(x, 50, 2, 1);
    }

    /** "a STEP (1 to 100,000)" */
    private static void stepsAreOneToAHundredThousand() {
        FairTables x = fair(2, 1, 100_000);
        Due.gives("a step of 1", x, x.auction(0, 0, -1, 0, 1), 1);
        brought(x, 2, 2, 0);
        Due.gives("a step of 100000", x, x.auction(0, 0, -1, 0, 100_000), 1);
        brought(x, 100_000, 2, 0);
        Due.none("a step of 0", x, x.auction(0, 0, -1, 0, 0), 2);
        Due.none("a step of 100001", x, x.auction(0, 0, -1, 0, 100_001), 2);
        brought(x, 100_000, 2, 0);
    }

    /** "if their LIMIT is not below it and t in a hundred of it (rounded up), they have it for that" */
    private static void toppingIsUpToFifty() {
        // A floor of 1 by 0, a bid of 101 by 1: what it is with the topping, for the limit at it and one below it.
        int[] prices = {101, 103, 152};
        int[] toppings = {0, 1, 50};
        for (int i = 0; i < prices.length; i++) {
            FairTables x = fair(2, prices[i], 101);
            Due.gives("a limit that is enough", x, x.auction(0, 1, 0, toppings[i], 100), 0);
            brought(x, prices[i], 2, 1);
            limits(x, 2, prices[i] - 1, 101);
            Due.gives("a limit that is 1 too low", x, x.auction(0, 1, 0, toppings[i], 100), 1);
            brought(x, 101, 2, 0);
        }
        // Nothing is rounded where it comes out even: 100 and 1 in a hundred of it, 50 in a hundred of 100.
        FairTables y = fair(2, 150, 100);
        Due.gives("1 in a hundred of 100", y, y.auction(0, 1, 0, 1, 99), 0);
        brought(y, 101, 2, 1);
        Due.gives("50 in a hundred of 100", y, y.auction(0, 1, 0, 50, 99), 0);
        brought(y, 150, 2, 1);
        Due.none("a topping of 51", y, y.auction(0, 1, 0, 51, 99), 2);
        Due.none("a topping of -1", y, y.auction(0, 1, 0, -1, 99), 2);
        // The greatest bid can't be topped but by 0 in a hundred.
        FairTables z = fair(2, 1_000_000, 1_000_000);
        Due.gives("0 in a hundred of a million", z, z.auction(0, 900_000, 0, 0, 100_000), 0);
        brought(z, 1_000_000, 2, 1);
        Due.gives("1 in a hundred of a million", z, z.auction(0, 900_000, 0, 1, 100_000), 1);
        brought(z, 1_000_000, 2, 0);
        Due.gives("50 in a hundred of a million", z, z.auction(0, 900_000, 0, 50, 100_000), 1);
        brought(z, 1_000_000, 2, 0);
        // Without a floor nobody tops.
        Due.gives("no floor", z, z.auction(0, 0, -1, 50, 100_000), 1);
        brought(z, 1_000_000, 6, 0);
    }

    private static void longAuctions() {
        // Two who outbid one another by 1: 500,000 rounds, then one in which nobody bids.
        FairTables x = fair(2, 1_000_000, 1_000_000);
        Due.gives("auction by 1", x, x.auction(0, 0, -1, 0, 1), 1);
        brought(x, 1_000_000, 500_001, 0);
        limits(x, 2, 1_000_000, 999_999);
        Due.gives("auction by 1", x, x.auction(0, 0, -1, 0, 1), 0);
        brought(x, 999_999, 500_001, 0);
    }

    private static void manyAuctions() {
        Random random = new Random(5);
        for (int i = 0; i < 3_000; i++) {
            int editors = 1 + random.nextInt(10);
            int most = new int[] {10, 100, 1_000, 20_000}[random.nextInt(4)];
            FairTables x = new FairTables();
            PlainModel model = new PlainModel();
            x.tray(0, 2, editors);
            model.tray(0, 2, editors);
            for (int e = 0; e < editors; e++) {
                x.editor();
                model.editor();
                int limit = random.nextInt(most);
                x.write(0, e, limit);
                model.write(0, e, limit);
            }
            for (int k = 0; k < 4; k++) {
                boolean bare = random.nextBoolean();
                int by = bare ? -1 : random.nextInt(editors);
                int floor = bare ? 0 : 1 + random.nextInt(1 + (int) model.read(0, by));
                int topping = random.nextInt(51);
                int step = 1 + random.nextInt(random.nextBoolean() ? 3 : 40);
                Due.is("auction", x.auction(0, floor, by, topping, step), model.auction(0, floor, by, topping, step));
                Due.is("status()", x.status(), model.status);
                for (int what = 0; what < 3; what++) {
                    Due.is("sold(" + what + ")", x.sold(what), model.sold(what));
                }
            }
        }
    }
}
