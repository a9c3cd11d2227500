import java.math.BigInteger;

/**
 * BEST and how it is LAID, found in other ways than the program's: by trying all SETS where they are few,
 * else by the ways of least cost from nobody to a full fair, with numbers as long as they need be.
 */
final class PlainBest {
    private static final int MOST_TRIED = 14;

    final boolean[][] in;
    final int worth;
    final int[][] hour;

    PlainBest(int[][] worths, int agents, int editors, int hours) {
        int pairs = 0;
        for (int a = 0; a < agents; a++) {
            for (int e = 0; e < editors; e++) {
                pairs += worths[a][e] > 0 ? 1 : 0;
            }
        }
        in = pairs <= MOST_TRIED ? tryAll(worths, agents, editors, hours) : byWays(worths, agents, editors, hours);
        int sum = 0;
        for (int a = 0; a < agents; a++) {
            for (int e = 0; e < editors; e++) {
                sum += in[a][e] ? worths[a][e] : 0;
            }
        }
        worth = sum;
        hour = lay(in, agents, editors, hours);
    }

    /** A greater number names a SET that is ahead: the first pair is the highest bit. */
    static boolean[][] tryAll(int[][] worths, int agents, int editors, int hours) {
        int[] agentOf = new int[agents * editors];
        int[] editorOf = new int[agents * editors];
        int pairs = 0;
        for (int a = 0; a < agents; a++) {
            for (int e = 0; e < editors; e++) {
                if (worths[a][e] > 0) {
                    agentOf[pairs] = a;
                    editorOf[pairs] = e;
                    pairs++;
                }
            }
        }
        int best = -1;
        int bestSet = 0;
        for (int set = (1 << pairs) - 1; set >= 0; set--) {
            int[] ofAgents = new int[agents];
            int[] ofEditors = new int[editors];
            int sum = 0;
            boolean fits = true;
            for (int p = 0; p < pairs && fits; p++) {
                if ((set >> (pairs - 1 - p) & 1) != 0) {
                    sum += worths[agentOf[p]][editorOf[p]];
                    fits = ++ofAgents[agentOf[p]] <= hours && ++ofEditors[editorOf[p]] <= hours;
                }
            }
            if (fits && sum > best) {
                best = sum;
                bestSet = set;
            }
        }
        boolean[][] in = new boolean[agents][editors];
        for (int p = 0; p < pairs; p++) {
            in[agentOf[p]][editorOf[p]] = (bestSet >> (pairs - 1 - p) & 1) != 0;
        }
        return in;
    }

    static boolean[][] byWays(int[][] worths, int agents, int editors, int hours) {
        int source = agents + editors;
        int sink = source + 1;
        int nodes = sink + 1;
        int[][] room = new int[nodes][nodes];
        BigInteger[][] gain = new BigInteger[nodes][nodes];
        for (BigInteger[] row : gain) {
            java.util.Arrays.fill(row, BigInteger.ZERO);
        }
        int pairs = agents * editors;
        for (int a = 0; a < agents; a++) {
            room[source][a] = hours;
            for (int e = 0; e < editors; e++) {
                room[agents + e][sink] = hours;
                if (worths[a][e] > 0) {
                    room[a][agents + e] = 1;
                    BigInteger g = BigInteger.valueOf(worths[a][e]).shiftLeft(pairs)
                            .add(BigInteger.ONE.shiftLeft(pairs - 1 - (a * editors + e)));
                    gain[a][agents + e] = g;
                    gain[agents + e][a] = g.negate();
                }
            }
        }
        while (widen(room, gain, source, sink)) {
            continue;
        }
        boolean[][] in = new boolean[agents][editors];
        for (int a = 0; a < agents; a++) {
            for (int e = 0; e < editors; e++) {
                in[a][e] = room[agents + e][a] == 1;
            }
        }
        return in;
    }

    private static boolean widen(int[][] room, BigInteger[][] gain, int source, int sink) {
        int nodes = room.length;
        BigInteger[] most = new BigInteger[nodes];
        int[] from = new int[nodes];
        most[source] = BigInteger.ZERO;
        for (boolean better = true; better;) {
            better = false;
            for (int u = 0; u < nodes; u++) {
                for (int v = 0; v < nodes && most[u] != null; v++) {
                    if (room[u][v] > 0) {
                        BigInteger way = most[u].add(gain[u][v]);
                        if (most[v] == null || way.compareTo(most[v]) > 0) {
                            most[v] = way;
                            from[v] = u;
                            better = true;
                        }
                    }
                }
            }
        }
        if (most[sink] == null || most[sink].signum() <= 0) {
            return false;
        }
        for (int v = sink; v != source; v = from[v]) {
            room[from[v]][v]--;
            room[v][from[v]]++;
        }
        return true;
    }

    /** The hour of each meeting, -1 of pairs that don't meet; a chain is found as a whole, then changed. */
    static int[][] lay(boolean[][] in, int agents, int editors, int hours) {
        int[][] hour = new int[agents][editors];
        for (int[] row : hour) {
            java.util.Arrays.fill(row, -1);
        }
        for (int a = 0; a < agents; a++) {
            for (int e = 0; e < editors; e++) {
                if (in[a][e]) {
                    layOne(hour, a, e, hours);
                }
            }
        }
        return hour;
    }

    private static void layOne(int[][] hour, int agent, int editor, int hours) {
        for (int h = 0; h < hours; h++) {
            if (editorAt(hour, agent, h) < 0 && agentAt(hour, editor, h) < 0) {
                hour[agent][editor] = h;
                return;
            }
        }
        int a = 0;
        while (editorAt(hour, agent, a) >= 0) {
            a++;
        }
        int b = 0;
        while (agentAt(hour, editor, b) >= 0) {
            b++;
        }
        java.util.List<int[]> chain = new java.util.ArrayList<>();
        int e = editor;
        while (true) {
            int g = agentAt(hour, e, a);
            if (g < 0) {
                break;
            }
            chain.add(new int[] {g, e, b});
            e = editorAt(hour, g, b);
            if (e < 0) {
                break;
            }
            chain.add(new int[] {g, e, a});
        }
        for (int[] link : chain) {
            hour[link[0]][link[1]] = link[2];
        }
        hour[agent][editor] = a;
    }

    private static int editorAt(int[][] hour, int agent, int h) {
        for (int e = 0; e < hour[agent].length; e++) {
            if (hour[agent][e] == h) {
                return e;
            }
        }
        return -1;
    }

    private static int agentAt(int[][] hour, int editor, int h) {
        for (int a = 0; a < hour.length; a++) {
            if (hour[a][editor] == h) {
                return a;
            }
        }
        return -1;
    }
}
