import java.util.ArrayList;
import java.util.List;
import java.util.function.Supplier;

/**
 * One call of the face, on a fair and with numbers that are fine, and all that can be wrong with it, told in
 * the order in which its promise lists the STATUS. BoundsTest, OrderTest and UnchangedTest ask it.
 */
final class Asking {
    private static final int MIN = Integer.MIN_VALUE;
    private static final int MAX = Integer.MAX_VALUE;
    private static final int NO_PLACE = -1;

    /** A call with its numbers; a boolean among them is 1 or 0. */
    interface Call {
        Object on(FairTables x, int[] numbers);
    }

    /** What is done on a fair ahead of the call. */
    interface Deed {
        void on(FairTables x);
    }

    /** One thing that is wrong, by a number of the call or by how the fair is. */
    static final class Fault {
        final String name;
        final int rank;
        final int status;
        private final int place;
        private final int number;
        private final Deed deed;
        private final Supplier<FairTables> fair;

        private Fault(String name, int rank, int status, int place, int number, Deed deed, Supplier<FairTables> fair) {
            this.name = name;
            this.rank = rank;
            this.status = status;
            this.place = place;
            this.number = number;
            this.deed = deed;
            this.fair = fair;
        }

        /** Two numbers in one place, or two fairs, can't be. */
        boolean goesWith(Fault other) {
            boolean samePlace = place != NO_PLACE && place == other.place;
            return !samePlace && (fair == null || other.fair == null);
        }
    }

    /** A number that is fine, too. */
    private static final class Fine {
        final int place;
        final int number;

        Fine(int place, int number) {
            this.place = place;
            this.number = number;
        }
    }

    final String name;
    final List<Fault> faults = new ArrayList<>();
    private final Supplier<FairTables> fair;
    private final Call call;
    private final int[] numbers;
    private final List<Fine> fines = new ArrayList<>();
    private int rank = 0;
    private int status = 0;
    private int statusAgain = 0;

    Asking(String name, Supplier<FairTables> fair, Call call, int... numbers) {
        this.name = name;
        this.fair = fair;
        this.call = call;
        this.numbers = numbers;
    }

    /** The STATUS that the promise lists next; what is told from here on leads to it. */
    Asking then(int listed) {
        rank++;
        status = listed;
        return this;
    }

    /** The least number that can be. */
    Asking least(int place, int least) {
        fines.add(new Fine(place, least));
        return wrong(place, least - 1, MIN);
    }

    /** The greatest number that can be. */
    Asking most(int place, int most) {
        fines.add(new Fine(place, most));
        return wrong(place, most + 1, MAX);
    }

    Asking range(int place, int least, int most) {
        return least(place, least).most(place, most);
    }

    Asking fine(int place, int... others) {
        for (int number : others) {
            fines.add(new Fine(place, number));
        }
        return this;
    }

    Asking wrong(int place, int... others) {
        for (int number : others) {
            faults.add(new Fault("number " + place + " is " + number, rank, status, place, number, null, null));
        }
        return this;
    }

    Asking after(String what, Deed deed) {
        faults.add(new Fault(what, rank, status, NO_PLACE, 0, deed, null));
        return this;
    }

    Asking instead(String what, Supplier<FairTables> otherFair) {
        faults.add(new Fault(what, rank, status, NO_PLACE, 0, null, otherFair));
        return this;
    }

    /** The STATUS when the same is asked again and again. */
    Asking again(int due) {
        statusAgain = due;
        return this;
    }

    /** The fair for the call; what comes later in the promise is done first, since 'full' bars all behind it. */
    FairTables fairWith(Fault... chosen) {
        Supplier<FairTables> from = fair;
        for (Fault fault : chosen) {
            from = fault.fair == null ? from : fault.fair;
        }
        FairTables x = from.get();
        for (int r = rank; r > 0; r--) {
            for (Fault fault : chosen) {
                if (fault.rank == r && fault.deed != null) {
                    fault.deed.on(x);
                }
            }
        }
        return x;
    }

    Object askWith(FairTables x, Fault... chosen) {
        int[] given = numbers.clone();
        for (Fault fault : chosen) {
            if (fault.place != NO_PLACE) {
                given[fault.place] = fault.number;
            }
        }
        return call.on(x, given);
    }

    /** The call is done with each number that is fine, and with none changed. */
    void askFine() {
        done("", refusedOnce(), numbers);
        for (Fine fine : fines) {
            int[] given = numbers.clone();
            given[fine.place] = fine.number;
            done(" with number " + fine.place + " as " + fine.number, refusedOnce(), given);
        }
    }

    /** Its STATUS is 2, and must not stay so. */
    private FairTables refusedOnce() {
        FairTables x = fair.get();
        x.hours(0);
        return x;
    }

    private void done(String how, FairTables x, int[] given) {
        Due.is(name + how + " is refused", call.on(x, given.clone()).equals(false), false);
        Due.is(name + how + ": status()", x.status(), 0);
    }

    /** The same call so many times: the first is done, the last has the STATUS that is due then. */
    void askAgain(int times) {
        FairTables x = refusedOnce();
        done("", x, numbers);
        for (int i = 1; i < times; i++) {
            call.on(x, numbers.clone());
        }
        Due.is(name + " asked " + times + " times: status()", x.status(), statusAgain);
    }

    /** The STATUS that is due when all these are wrong at once. */
    static int dueWith(Fault... chosen) {
        Fault first = chosen[0];
        for (Fault fault : chosen) {
            first = fault.rank < first.rank ? fault : first;
        }
        return first.status;
    }

    String nameWith(Fault... chosen) {
        StringBuilder text = new StringBuilder(name);
        String joint = ": ";
        for (Fault fault : chosen) {
            text.append(joint).append(fault.name);
            joint = ", ";
        }
        return text.toString();
    }
}
