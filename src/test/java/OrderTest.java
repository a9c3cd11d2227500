import java.util.ArrayList;
import java.util.List;

/**
 * Promises 3 to 29: when several things are wrong with a call, its STATUS is the one that the promise lists first:
 * of any two things that can be wrong at once, and of one and all that can go wrong with it behind it.
 */
public final class OrderTest {
    public static void main(String[] args) {
        for (Asking asking : Askings.all()) {
            for (Asking.Fault first : asking.faults) {
                for (Asking.Fault later : asking.faults) {
                    if (later.rank > first.rank && first.goesWith(later)) {
                        ask(asking, first, later);
                    }
                }
                ask(asking, withAllBehind(asking, first));
            }
        }
        Due.end();
    }

    private static void ask(Asking asking, Asking.Fault... chosen) {
        FairTables x = asking.fairWith(chosen);
        Due.refused(asking.nameWith(chosen), x, asking.askWith(x, chosen), Asking.dueWith(chosen));
    }

    private static Asking.Fault[] withAllBehind(Asking asking, Asking.Fault first) {
        List<Asking.Fault> chosen = new ArrayList<>();
        chosen.add(first);
        for (Asking.Fault fault : asking.faults) {
            if (fault.rank > first.rank && chosen.stream().allMatch(fault::goesWith)) {
                chosen.add(fault);
            }
        }
        return chosen.toArray(new Asking.Fault[0]);
    }
}
