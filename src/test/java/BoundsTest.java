/**
 * Promises 3 to 29: of each number of each call the least and the greatest that can be are done, the next on
 * either side, and the least and the greatest int, are refused with the STATUS that the promise lists.
 */
public final class BoundsTest {
    public static void main(String[] args) {
        for (Asking asking : Askings.all()) {
            asking.askFine();
            for (Asking.Fault fault : asking.faults) {
                FairTables x = asking.fairWith(fault);
                Due.refused(asking.nameWith(fault), x, asking.askWith(x, fault), fault.status);
            }
        }
        Due.end();
    }
}
