import java.util.Random;

/** Promises 11 to 13 on great fairs: BEST, kept while WORTHS and hours change, against one that is found anew. */
public final class BestTest {
    public static void main(String[] args) {
        int fairs = args.length > 0 ? Integer.parseInt(args[0]) : 40;
        for (int seed = 0; seed < fairs; seed++) {
            changes(new Random(seed));
        }
        tryingAllAgrees();
        Due.end();
    }

    private static void changes(Random random) {
        int agents = 1 + random.nextInt(8);
        int editors = 1 + random.nextInt(10);
        int most = new int[] {1, 2, 5, 100}[random.nextInt(4)];
        int share = 1 + random.nextInt(4);
        int[][] worths = new int[8][10];
        int hours = 4;
        FairTables x = Fairs.withHours(agents, editors, hours);
        for (int a = 0; a < agents; a++) {
            for (int e = 0; e < editors; e++) {
                worths[a][e] = random.nextInt(4) < share ? 1 + random.nextInt(most) : 0;
                x.worth(a, e, worths[a][e]);
            }
        }
        for (int change = 0; change < 60; change++) {
            if (random.nextInt(6) == 0) {
                hours = 1 + random.nextInt(8);
                x.hours(hours);
            }
            for (int k = random.nextInt(4); k > 0; k--) {
                int a = random.nextInt(agents);
                int e = random.nextInt(editors);
                worths[a][e] = random.nextInt(4) < share ? 1 + random.nextInt(most) : 0;
                x.worth(a, e, worths[a][e]);
            }
            compare(x, worths, agents, editors, hours);
        }
    }

    private static void compare(FairTables x, int[][] worths, int agents, int editors, int hours) {
        PlainBest plain = new PlainBest(worths, agents, editors, hours);
        Due.is("best()", x.best(), plain.worth);
        for (int a = 0; a < agents; a++) {
            for (int e = 0; e < editors; e++) {
                Due.is("meets(" + a + ", " + e + ")", x.meets(a, e), plain.hour[a][e]);
                Due.is("status()", x.status(), plain.in[a][e] ? 0 : 9);
                if (plain.in[a][e]) {
                    Due.is("at(" + a + ", " + plain.hour[a][e] + ")", x.at(a, plain.hour[a][e]), e);
                }
            }
        }
    }

    /** Both ways of the plain BEST find the same SET, so that what is compared with is sound. */
    private static void tryingAllAgrees() {
        Random random = new Random(7);
        for (int fair = 0; fair < 150; fair++) {
            int agents = 1 + random.nextInt(4);
            int editors = 1 + random.nextInt(12 / agents);
            int hours = 1 + random.nextInt(3);
            int[][] worths = new int[agents][editors];
            for (int[] row : worths) {
                for (int e = 0; e < editors; e++) {
                    row[e] = random.nextInt(4);
                }
            }
            boolean[][] all = PlainBest.tryAll(worths, agents, editors, hours);
            boolean[][] ways = PlainBest.byWays(worths, agents, editors, hours);
            for (int a = 0; a < agents; a++) {
                for (int e = 0; e < editors; e++) {
                    Due.is("the plain SET", all[a][e], ways[a][e]);
                }
            }
        }
    }
}
