/**
 * Promises 3 to 29: of each number of each call the least and the greatest that can be are done, the next on
 * either side, and the least and the greatest int, are refused with the STATUS that the promise lists; and the
 * same call is answered until the object's calls are used up.
 */
public final class BoundsTest {
    // Of 512, as many as the fair leaves that they begin with.
    private static final int TIMES = 400;

    public static void main(String[] args) {
        for (Asking asking : Askings.all()) {
            asking.askFine();
            asking.askAgain(TIMES);
            for (Asking.Fault fault : asking.faults) {
                FairTables x = asking.fairWith(fault);
                Due.refused(asking.nameWith(fault), x, asking.askWith(x, fault), fault.status);
            }
        }
        Due.end();
    }
}
