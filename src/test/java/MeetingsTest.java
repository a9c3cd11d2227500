/** Promises 7 to 13: AGENTS, EDITORS, HALF HOURS, WORTH, BEST and how it is LAID. */
public final class MeetingsTest {
    private static final int MIN = Integer.MIN_VALUE;
    private static final int MAX = Integer.MAX_VALUE;

    public static void main(String[] args) {
        agentsAndEditorsCome();
        hoursAreOneToEight();
        worthRefuses();
        bestOfNobody();
        worthIsUpToAHundred();
        bestIsTheMostWorth();
        bestIsTheFirstOfSeveral();
        bestOfEqualWorthsIsTheFirst();
        nobodyIsInMoreThanThereAreHours();
        anAgentIsInAsManyAsThereAreHours();
        anEditorIsInAsManyAsThereAreHours();
        aPairMeetsOnce();
        noWorthNoMeeting();
        laidToTheLeastHour();
        laidToTheLastHour();
        laidWithAChain();
        laidWithALongChain();
        laidWhereAChainMadeRoom();
        bestChangesWithWhatIsSaid();
        meetsAndAtRefuse();
        Due.end();
    }

    private static void worths(FairTables x, int[][] worths) {
        for (int a = 0; a < worths.length; a++) {
            for (int e = 0; e < worths[a].length; e++) {
                Due.done("worth", x, x.worth(a, e, worths[a][e]));
            }
        }
    }

    /** The hours of all pairs; -1: they don't meet. */
    private static void hours(FairTables x, int[][] hours) {
        for (int a = 0; a < hours.length; a++) {
            for (int e = 0; e < hours[a].length; e++) {
                String call = "meets(" + a + ", " + e + ")";
                Due.is(call, x.meets(a, e), hours[a][e]);
                Due.is(call + ": status()", x.status(), hours[a][e] < 0 ? 9 : 0);
                if (hours[a][e] >= 0) {
                    Due.gives("at(" + a + ", " + hours[a][e] + ")", x, x.at(a, hours[a][e]), e);
                }
            }
        }
    }

    private static void agentsAndEditorsCome() {
        FairTables x = new FairTables();
        for (int a = 0; a < 8; a++) {
            Due.gives("agent()", x, x.agent(), a);
        }
        Due.none("agent()", x, x.agent(), 7);
        for (int e = 0; e < 10; e++) {
            Due.gives("editor()", x, x.editor(), e);
        }
        Due.none("editor()", x, x.editor(), 7);
        Due.none("agent()", x, x.agent(), 7);
        Due.done("worth(7, 9, 100)", x, x.worth(7, 9, 100));
        Due.not("worth(8, 9, 100)", x, x.worth(8, 9, 100), 1);
        Due.not("worth(7, 10, 100)", x, x.worth(7, 10, 100), 1);
    }

    private static void hoursAreOneToEight() {
        FairTables x = Fairs.withHours(1, 10, 4);
        for (int bad : new int[] {0, 9, -1, MIN, MAX}) {
            Due.not("hours(" + bad + ")", x, x.hours(bad), 2);
        }
        for (int e = 0; e < 10; e++) {
            x.worth(0, e, 1);
        }
        Due.gives("best() of 4 hours", x, x.best(), 4);
        for (int many = 1; many <= 8; many++) {
            Due.done("hours(" + many + ")", x, x.hours(many));
            Due.gives("best()", x, x.best(), many);
            Due.gives("at the last hour", x, x.at(0, many - 1), many - 1);
            Due.none("at behind the last hour", x, x.at(0, many), 2);
        }
        // At first there are 4.
        FairTables y = new FairTables();
        y.agent();
        Due.none("at(0, 3)", y, y.at(0, 3), 9);
        Due.none("at(0, 4)", y, y.at(0, 4), 2);
    }

    private static void worthRefuses() {
        FairTables x = Fairs.withHours(2, 3, 1);
        Due.done("worth(1, 2, 100)", x, x.worth(1, 2, 100));
        for (int bad : new int[] {-1, 101, MIN, MAX}) {
            Due.not("worth(1, 2, " + bad + ")", x, x.worth(1, 2, bad), 2);
            Due.not("worth(2, 2, " + bad + ")", x, x.worth(2, 2, bad), 1);
        }
        for (int bad : new int[] {-1, 2, MIN, MAX}) {
            Due.not("worth(" + bad + ", 0, 5)", x, x.worth(bad, 0, 5), 1);
        }
        for (int bad : new int[] {-1, 3, MIN, MAX}) {
            Due.not("worth(0, " + bad + ", 5)", x, x.worth(0, bad, 5), 1);
        }
        Due.gives("best()", x, x.best(), 100);
        Due.done("worth(1, 2, 0)", x, x.worth(1, 2, 0));
        Due.gives("best()", x, x.best(), 0);
        // The same once more is no fault.
        Due.done("worth(1, 2, 0)", x, x.worth(1, 2, 0));
    }

    /** None at all: no agents, no editors, or neither. */
    private static void bestOfNobody() {
        FairTables x = new FairTables();
        Due.gives("best()", x, x.best(), 0);
        x.agent();
        Due.gives("best() without editors", x, x.best(), 0);
        Due.none("at(0, 0) without editors", x, x.at(0, 0), 9);
        Due.none("meets(0, 0) without editors", x, x.meets(0, 0), 1);
        FairTables y = new FairTables();
        y.editor();
        Due.gives("best() without agents", y, y.best(), 0);
        Due.none("at(0, 0) without agents", y, y.at(0, 0), 1);
        Due.none("meets(0, 0) without agents", y, y.meets(0, 0), 1);
    }

    /** "WORTH of a meeting .. 0 to 100 (0: they do not meet; at first)" */
    private static void worthIsUpToAHundred() {
        FairTables x = Fairs.withHours(8, 10, 8);
        for (int worth : new int[] {1, 2, 99, 100}) {
            Due.done("worth(0, 0, " + worth + ")", x, x.worth(0, 0, worth));
            Due.gives("best()", x, x.best(), worth);
            Due.gives("meets(0, 0)", x, x.meets(0, 0), 0);
            Due.done("worth(7, 9, " + worth + ")", x, x.worth(7, 9, worth));
            Due.gives("best()", x, x.best(), 2 * worth);
            Due.gives("meets(7, 9)", x, x.meets(7, 9), 0);
            Due.done("worth(7, 9, 0)", x, x.worth(7, 9, 0));
            Due.none("meets(7, 9)", x, x.meets(7, 9), 9);
            Due.none("at(7, 0)", x, x.at(7, 0), 9);
        }
        Due.done("worth(0, 0, 0)", x, x.worth(0, 0, 0));
        Due.gives("best()", x, x.best(), 0);
        Due.none("meets(0, 0)", x, x.meets(0, 0), 9);
    }

    private static void bestIsTheMostWorth() {
        FairTables x = Fairs.withHours(3, 3, 1);
        // The greatest first would give 10 + 6 + 1.
        worths(x, new int[][] {{10, 9, 2}, {9, 1, 6}, {3, 5, 1}});
        Due.gives("best()", x, x.best(), 21);
        hours(x, new int[][] {{0, -1, -1}, {-1, -1, 0}, {-1, 0, -1}});
        x.worth(2, 1, 2);
        Due.gives("best()", x, x.best(), 19);
        hours(x, new int[][] {{-1, 0, -1}, {0, -1, -1}, {-1, -1, 0}});
    }

    private static void bestIsTheFirstOfSeveral() {
        FairTables x = Fairs.withHours(3, 3, 1);
        worths(x, new int[][] {{7, 7, 7}, {7, 7, 7}, {7, 7, 7}});
        Due.gives("best()", x, x.best(), 21);
        hours(x, new int[][] {{0, -1, -1}, {-1, 0, -1}, {-1, -1, 0}});
        // One 8 and two 4: the SET with pair (0, 0) is ahead, though it has one meeting alone.
        FairTables y = Fairs.withHours(2, 2, 1);
        worths(y, new int[][] {{8, 4}, {4, 0}});
        hours(y, new int[][] {{0, -1}, {-1, -1}});
        // Two SETS that differ in the last pairs alone.
        FairTables z = Fairs.withHours(8, 10, 1);
        z.worth(7, 8, 50);
        z.worth(7, 9, 50);
        z.worth(6, 9, 50);
        z.worth(6, 8, 50);
        Due.gives("best()", z, z.best(), 100);
        Due.gives("meets(6, 8)", z, z.meets(6, 8), 0);
        Due.gives("meets(7, 9)", z, z.meets(7, 9), 0);
        Due.none("meets(6, 9)", z, z.meets(6, 9), 9);
        // The first pair weighs more than all later ones: (0, 1) ahead of (0, 2), (1, 0), (1, 1).
        FairTables w = Fairs.withHours(2, 3, 1);
        worths(w, new int[][] {{0, 6, 3}, {0, 3, 0}});
        hours(w, new int[][] {{-1, 0, -1}, {-1, -1, -1}});
    }

    /** All WORTHS alike: with n HALF HOURS the first n agents meet the first n editors, the next the next ones. */
    private static void bestOfEqualWorthsIsTheFirst() {
        for (int hours = 1; hours <= 5; hours++) {
            FairTables x = Fairs.withHours(8, 10, hours);
            for (int a = 0; a < 8; a++) {
                for (int e = 0; e < 10; e++) {
                    x.worth(a, e, 3);
                }
            }
            Due.gives("best()", x, x.best(), 24 * hours);
            for (int a = 0; a < 8; a++) {
                for (int e = 0; e < 10; e++) {
                    x.meets(a, e);
                    Due.is("meets(" + a + ", " + e + "): status()", x.status(), a / hours == e / hours ? 0 : 9);
                }
            }
        }
    }

    private static void nobodyIsInMoreThanThereAreHours() {
        FairTables x = Fairs.withHours(8, 10, 3);
        for (int a = 0; a < 8; a++) {
            for (int e = 0; e < 10; e++) {
                x.worth(a, e, 100);
            }
        }
        Due.gives("best()", x, x.best(), 2400);
        for (int hour = 0; hour < 3; hour++) {
            boolean[] atTable = new boolean[10];
            for (int a = 0; a < 8; a++) {
                int editor = x.at(a, hour);
                Due.is("an editor at no other table", editor >= 0 && !atTable[editor], true);
                if (editor >= 0) {
                    atTable[editor] = true;
                }
            }
        }
        x.hours(8);
        Due.gives("best()", x, x.best(), 6400);
        x.hours(1);
        Due.gives("best()", x, x.best(), 800);
    }

    /** As many as there are HALF HOURS all meet; of one more, the one of least WORTH, or the last, does not. */
    private static void anAgentIsInAsManyAsThereAreHours() {
        for (int hours = 1; hours <= 8; hours++) {
            FairTables x = Fairs.withHours(1, 10, hours);
            for (int e = 0; e < hours; e++) {
                x.worth(0, e, 5);
            }
            Due.gives("best()", x, x.best(), 5 * hours);
            for (int e = 0; e < hours; e++) {
                Due.gives("meets(0, " + e + ")", x, x.meets(0, e), e);
            }
            x.worth(0, hours, 5);
            Due.gives("best() with one too many", x, x.best(), 5 * hours);
            Due.none("the last of one too many", x, x.meets(0, hours), 9);
            x.worth(0, hours, 6);
            Due.gives("best() with a better one", x, x.best(), 5 * hours + 1);
            Due.gives("the better one", x, x.meets(0, hours), hours - 1);
            Due.none("the last of the others", x, x.meets(0, hours - 1), 9);
        }
    }

    private static void anEditorIsInAsManyAsThereAreHours() {
        for (int hours = 1; hours <= 8; hours++) {
            FairTables x = Fairs.withHours(8, 1, hours);
            for (int a = 0; a < hours; a++) {
                x.worth(a, 0, 5);
            }
            Due.gives("best()", x, x.best(), 5 * hours);
            for (int a = 0; a < hours; a++) {
                Due.gives("meets(" + a + ", 0)", x, x.meets(a, 0), a);
            }
            if (hours < 8) {
                x.worth(hours, 0, 5);
                Due.gives("best() with one too many", x, x.best(), 5 * hours);
                Due.none("the last of one too many", x, x.meets(hours, 0), 9);
                x.worth(0, 0, 4);
                Due.gives("best() with a worse one", x, x.best(), 5 * hours);
                Due.none("the worse one", x, x.meets(0, 0), 9);
                Due.gives("the last", x, x.meets(hours, 0), hours - 1);
            }
        }
    }

    /** "of unlike pairs": free half hours do not make a pair meet twice. */
    private static void aPairMeetsOnce() {
        FairTables x = Fairs.withHours(1, 1, 8);
        x.worth(0, 0, 100);
        Due.gives("best()", x, x.best(), 100);
        Due.gives("meets(0, 0)", x, x.meets(0, 0), 0);
        for (int hour = 1; hour < 8; hour++) {
            Due.none("at(0, " + hour + ")", x, x.at(0, hour), 9);
        }
        Due.none("at(0, 8)", x, x.at(0, 8), 2);
    }

    private static void noWorthNoMeeting() {
        FairTables x = Fairs.withHours(2, 2, 2);
        Due.gives("best()", x, x.best(), 0);
        hours(x, new int[][] {{-1, -1}, {-1, -1}});
        Due.none("at(0, 0)", x, x.at(0, 0), 9);
        x.worth(1, 1, 1);
        Due.gives("best()", x, x.best(), 1);
        hours(x, new int[][] {{-1, -1}, {-1, 0}});
        Due.none("at(1, 1)", x, x.at(1, 1), 9);
    }

    private static void laidToTheLeastHour() {
        FairTables x = Fairs.withHours(2, 2, 2);
        worths(x, new int[][] {{1, 0}, {1, 1}});
        hours(x, new int[][] {{0, -1}, {1, 0}});
        FairTables y = Fairs.withHours(3, 3, 2);
        worths(y, new int[][] {{0, 1, 0}, {1, 0, 1}, {0, 1, 1}});
        hours(y, new int[][] {{-1, 0, -1}, {0, -1, 1}, {-1, 1, 0}});
        FairTables z = Fairs.withHours(2, 3, 2);
        worths(z, new int[][] {{1, 1, 0}, {0, 1, 1}});
        hours(z, new int[][] {{0, 1, -1}, {-1, 0, 1}});
    }

    /** Eight agents and ten editors in eight half hours: every seat of every agent is taken. */
    private static void laidToTheLastHour() {
        FairTables x = Fairs.withHours(8, 10, 8);
        for (int a = 0; a < 8; a++) {
            for (int e = 0; e < 10; e++) {
                x.worth(a, e, e < 8 ? 2 : 1);
            }
        }
        Due.gives("best()", x, x.best(), 128);
        for (int a = 0; a < 8; a++) {
            boolean[] met = new boolean[10];
            for (int hour = 0; hour < 8; hour++) {
                int editor = x.at(a, hour);
                Due.is("an editor who was not met yet", editor >= 0 && editor < 8 && !met[editor], true);
                met[editor] = true;
                Due.gives("meets", x, x.meets(a, editor), hour);
            }
            Due.none("meets(" + a + ", 8)", x, x.meets(a, 8), 9);
            Due.none("meets(" + a + ", 9)", x, x.meets(a, 9), 9);
        }
    }

    private static void laidWithAChain() {
        // (0, 0) 0, (0, 1) 1, (0, 2) 2, (1, 0) 1, (1, 1) 0, then (1, 2): agent 1 is free at 2 (a), editor 2 at
        // 0 (b): (0, 2) goes to 0, of agent 0 (0, 0) to 2, editor 0 has none at 2: (1, 2) is at 2.
        FairTables x = Fairs.withHours(2, 3, 3);
        worths(x, new int[][] {{1, 1, 1}, {1, 1, 1}});
        Due.gives("best()", x, x.best(), 6);
        hours(x, new int[][] {{2, 1, 0}, {1, 0, 2}});
    }

    private static void laidWithALongChain() {
        // The meetings by turns: (0, 3) 0, (1, 0) 0, (2, 0) 1, (2, 1) 0, (3, 1) 1, then (3, 3): agent 3 is
        // free at 0 (a), editor 3 at 1 (b): (0, 3) goes to 1, agent 0 has none at 1, and (3, 3) is at 0.
        FairTables x = Fairs.withHours(4, 4, 2);
        worths(x, new int[][] {{0, 0, 0, 1}, {1, 0, 0, 0}, {1, 1, 0, 0}, {0, 1, 0, 1}});
        hours(x, new int[][] {{-1, -1, -1, 1}, {0, -1, -1, -1}, {1, 0, -1, -1}, {-1, 1, -1, 0}});
        // (0, 1) 0, (0, 2) 1, (1, 0) 0, then (1, 2): a is 1, b is 0: (0, 2) goes to 0, of agent 0 (0, 1) to
        // 1, editor 1 has none at 1: (1, 2) is at 1.
        FairTables y = Fairs.withHours(2, 3, 2);
        worths(y, new int[][] {{0, 1, 1}, {1, 0, 1}});
        hours(y, new int[][] {{-1, 1, 0}, {0, -1, 1}});
        // All six without a chain: (0, 1) 0, (0, 2) 1, (1, 0) 0, (1, 1) 1, (2, 0) 1, (2, 2) 0.
        FairTables z = Fairs.withHours(3, 3, 2);
        worths(z, new int[][] {{0, 1, 1}, {1, 1, 0}, {1, 0, 1}});
        hours(z, new int[][] {{-1, 0, 1}, {0, 1, -1}, {1, -1, 0}});
        // A chain of four: (0, 1) 0, (0, 3) 1, (1, 1) 1, (1, 2) 0, (2, 0) 0, then (2, 3): a is 1, b is 0:
        // (0, 3) to 0, (0, 1) to 1, (1, 1) to 0, (1, 2) to 1, editor 2 has none at 1: (2, 3) is at 1.
        FairTables w = Fairs.withHours(3, 4, 2);
        worths(w, new int[][] {{0, 1, 0, 1}, {0, 1, 1, 0}, {1, 0, 0, 1}});
        hours(w, new int[][] {{-1, 1, -1, 0}, {-1, 0, 1, -1}, {0, -1, -1, 1}});
    }

    private static void laidWhereAChainMadeRoom() {
        // (0, 1) 0, (0, 2) 1, (1, 0) 0, (1, 2) at 1 by a chain that moves (0, 2) to 0 and (0, 1) to 1: so editor 1
        // is free at 0, where (2, 1) comes.
        FairTables x = Fairs.withHours(3, 3, 2);
        worths(x, new int[][] {{0, 1, 1}, {1, 0, 1}, {0, 1, 0}});
        hours(x, new int[][] {{-1, 1, 0}, {0, -1, 1}, {-1, 0, -1}});
        Due.gives("at(2, 0)", x, x.at(2, 0), 1);
        // (0, 2) 0, (0, 3) 1, (1, 1) 0, (1, 3) at 1 by a chain that moves (0, 3) to 0 and (0, 2) to 1; (2, 0) 0; then
        // (2, 2): a is 1, and b is 0, where the chain left editor 2 free: (0, 2) to 0, (0, 3) to 1, (1, 3) to 0,
        // (1, 1) to 1, and (2, 2) is at 1.
        FairTables z = Fairs.withHours(3, 4, 2);
        worths(z, new int[][] {{0, 0, 1, 1}, {0, 1, 0, 1}, {1, 0, 1, 0}});
        hours(z, new int[][] {{-1, -1, 0, 1}, {-1, 1, -1, 0}, {0, -1, 1, -1}});
        // (0, 3) 0, (3, 1) 1, and (3, 3) at 0 by a chain that moves (0, 3) to 1: so agent 0 is free at 0.
        FairTables y = Fairs.withHours(4, 4, 2);
        worths(y, new int[][] {{0, 0, 0, 1}, {1, 0, 0, 0}, {1, 1, 0, 0}, {0, 1, 0, 1}});
        Due.none("at(0, 0)", y, y.at(0, 0), 9);
        Due.gives("at(0, 1)", y, y.at(0, 1), 3);
    }

    private static void bestChangesWithWhatIsSaid() {
        FairTables x = Fairs.withHours(1, 2, 1);
        x.worth(0, 0, 5);
        Due.gives("best()", x, x.best(), 5);
        x.worth(0, 1, 6);
        Due.gives("meets(0, 1)", x, x.meets(0, 1), 0);
        Due.none("meets(0, 0)", x, x.meets(0, 0), 9);
        x.worth(0, 1, 5);
        Due.gives("meets(0, 0)", x, x.meets(0, 0), 0);
        x.agent();
        Due.none("at(1, 0)", x, x.at(1, 0), 9);
        x.worth(1, 0, 1);
        Due.gives("best()", x, x.best(), 6);
        Due.gives("at(0, 0)", x, x.at(0, 0), 1);
        Due.gives("at(1, 0)", x, x.at(1, 0), 0);
        x.editor();
        Due.none("meets(0, 2)", x, x.meets(0, 2), 9);
        x.hours(2);
        Due.gives("best()", x, x.best(), 11);
        Due.gives("meets(0, 0)", x, x.meets(0, 0), 0);
        Due.gives("meets(0, 1)", x, x.meets(0, 1), 1);
        Due.gives("meets(1, 0)", x, x.meets(1, 0), 1);
        // A call that is refused changes nothing.
        x.hours(9);
        x.worth(0, 0, 101);
        Due.gives("best()", x, x.best(), 11);
    }

    private static void meetsAndAtRefuse() {
        FairTables x = Fairs.withHours(2, 3, 2);
        x.worth(0, 0, 1);
        for (int bad : new int[] {-1, 2, MIN, MAX}) {
            Due.none("meets(" + bad + ", 0)", x, x.meets(bad, 0), 1);
            Due.none("at(" + bad + ", 0)", x, x.at(bad, 0), 1);
            Due.none("at(" + bad + ", 9)", x, x.at(bad, 9), 1);
        }
        for (int bad : new int[] {-1, 3, MIN, MAX}) {
            Due.none("meets(0, " + bad + ")", x, x.meets(0, bad), 1);
        }
        for (int bad : new int[] {-1, 2, 8, MIN, MAX}) {
            Due.none("at(0, " + bad + ")", x, x.at(0, bad), 2);
        }
        Due.gives("at(0, 0)", x, x.at(0, 0), 0);
        Due.none("at(0, 1)", x, x.at(0, 1), 9);
    }
}
