import java.util.ArrayList;
import java.util.HashMap;
import java.util.List;
import java.util.Map;
import java.util.PriorityQueue;
import java.util.Random;

/** Promises 32 to 35 and 40 to 43 on random roads: states taken pint by pint, WAYS listed one by one. */
public final class NetBruteTest {
    private static final Told T = new Told("nets and receipts");

    /** The least to be at the goal: states are PLACE, pints, and whether a stop is paid here. */
    private static int net(Model m, boolean minutes) {
        PriorityQueue<int[]> queue = new PriorityQueue<>((p, q) -> Integer.compare(p[0], q[0]));
        boolean[][][] settled = new boolean[9][41][2];
        queue.add(new int[] {0, m.way.get(0), m.has, 0});
        while (!queue.isEmpty()) {
            int[] s = queue.remove();
            if (settled[s[1]][s[2]][s[3]]) {
                continue;
            }
            settled[s[1]][s[2]][s[3]] = true;
            if (s[1] == m.way.get(m.last())) {
                return s[0];
            }
            if (m.first[s[1]] > 0 && s[2] < m.tank) {
                int stop = s[3] == 1 ? 0 : minutes ? m.stopMinutes : m.stopPence;
                queue.add(new int[] {s[0] + stop + (minutes ? 0 : m.first[s[1]]), s[1], s[2] + 1, 1});
            }
            for (int p = 0; p < m.places; p++) {
                if (m.pints[s[1]][p] > 0 && m.pints[s[1]][p] <= s[2]) {
                    queue.add(new int[] {s[0] + (minutes ? m.minutes[s[1]][p] : 0), p, s[2] - m.pints[s[1]][p], 0});
                }
            }
        }
        return -2;
    }

    private static int[] most(Model m) {
        int[] most = new int[9];
        java.util.Arrays.fill(most, -2);
        boolean[][] seen = new boolean[9][41];
        List<int[]> open = new ArrayList<>();
        open.add(new int[] {m.way.get(0), m.has});
        while (!open.isEmpty()) {
            int[] s = open.remove(open.size() - 1);
            if (seen[s[0]][s[1]]) {
                continue;
            }
            seen[s[0]][s[1]] = true;
            most[s[0]] = Math.max(most[s[0]], s[1]);
            if (m.first[s[0]] > 0 && s[1] < m.tank) {
                open.add(new int[] {s[0], s[1] + 1});
            }
            for (int p = 0; p < m.places; p++) {
                if (m.pints[s[0]][p] > 0 && m.pints[s[0]][p] <= s[1]) {
                    open.add(new int[] {p, s[1] - m.pints[s[0]][p]});
                }
            }
        }
        return most;
    }

    private static void checkNet(Model m, LastsToNext x, String text) {
        int pence = net(m, false);
        T.due("net " + text, x.net(false), pence);
        T.due("soon " + text, x.net(true), net(m, true));
        int cheapest = x.cheapest();
        T.due("worth " + text, x.worth(), cheapest == -2 || pence == -2 ? -2 : cheapest - pence);
        int[] most = most(m);
        int[][] d = new int[9][9];
        for (int a = 0; a < m.places; a++) {
            for (int b = 0; b < m.places; b++) {
                d[a][b] = a == b ? 0 : m.pints[a][b] > 0 ? m.pints[a][b] : 99999;
            }
        }
        for (int c = 0; c < m.places; c++) {
            for (int a = 0; a < m.places; a++) {
                for (int b = 0; b < m.places; b++) {
                    d[a][b] = Math.min(d[a][b], d[a][c] + d[c][b]);
                }
            }
        }
        for (int a = 0; a < m.places; a++) {
            T.due("most " + a + " " + text, x.most(a), most[a]);
            for (int b = 0; b < m.places; b++) {
                T.due("near " + a + " " + b + " " + text, x.near(a, b), a == b ? -1 : d[a][b] >= 99999 ? -2 : d[a][b]);
            }
        }
    }

    private static void ways(Model m, List<Integer> row, List<List<Integer>> all) {
        int at = row.get(row.size() - 1);
        if (at == m.way.get(m.last())) {
            all.add(new ArrayList<>(row));
            return;
        }
        for (int p = 0; p < m.places; p++) {
            if (m.pints[at][p] > 0 && !row.contains(p)) {
                row.add(p);
                ways(m, row, all);
                row.remove(row.size() - 1);
            }
        }
    }

    /** Whether a row FITS from a PLACE of it on, so many receipts being done. */
    private static boolean fits(Model m, List<Integer> row, int at, int done, int pints) {
        if (done < m.receipts.size() && m.receipts.get(done)[0] == row.get(at)) {
            int pence = m.receipts.get(done)[1];
            for (int price : new int[] {m.first[row.get(at)], m.second[row.get(at)]}) {
                if (price > 0 && pence % price == 0 && pints + pence / price <= m.tank
                        && fits(m, row, at, done + 1, pints + pence / price)) {
                    return true;
                }
            }
        }
        if (at == row.size() - 1) {
            return done == m.receipts.size();
        }
        int leg = m.pints[row.get(at)][row.get(at + 1)];
        return pints >= leg && fits(m, row, at + 1, done, pints - leg);
    }

    private static void checkReceipts(Model m, LastsToNext x, String text, Map<Integer, Integer> counts) {
        List<List<Integer>> all = new ArrayList<>();
        ways(m, new ArrayList<>(List.of(m.way.get(0))), all);
        List<List<Integer>> fitting = new ArrayList<>();
        int least = -2;
        int most = -2;
        for (List<Integer> row : all) {
            if (fits(m, row, 0, 0, m.has)) {
                fitting.add(row);
            }
            for (int pints = 0; pints <= m.tank; pints++) {
                if (fits(m, row, 0, 0, pints)) {
                    least = least == -2 ? pints : Math.min(least, pints);
                    most = Math.max(most, pints);
                }
            }
        }
        counts.merge(Math.min(2, fitting.size()), 1, Integer::sum);
        T.due("fits " + text, x.fits(), fitting.size());
        T.due("needle " + text, x.needle(false), least);
        T.due("needle most " + text, x.needle(true), most);
        int could = 0;
        int surely = fitting.isEmpty() ? 0 : -1;
        for (int k = 0; k < fitting.size(); k++) {
            int bits = 0;
            for (int p : fitting.get(k)) {
                bits |= 1 << p;
            }
            could |= bits;
            surely &= bits;
        }
        T.due("could " + text, x.went(false), could);
        T.due("surely " + text, x.went(true), surely);
        for (int k = 0; k < Math.min(12, fitting.size()); k++) {
            for (int i = 0; i < fitting.get(k).size(); i++) {
                T.due("fit " + k + " " + i + " " + text, x.fit(k, i), fitting.get(k).get(i));
            }
            T.refused("fit " + k + " " + text, x.fit(k, fitting.get(k).size()), x, 1);
        }
        T.refused("fit " + text, x.fit(fitting.size(), 0), x, 1);
    }

    public static void main(String[] args) {
        Random r = new Random(3);
        Map<Integer, Integer> counts = new HashMap<>();
        for (int round = 0; round < 3000; round++) {
            Model m = Model.random(r, round % 2 == 0 ? 6 : 9, round % 3 == 0 ? 40 : 12, 9);
            String text = m.text(r);
            checkNet(m, Told.of(text), text);
            checkReceipts(m, Told.of(text), text, counts);
        }
        // The roads are of use only if all cases come: none FITS, one does, more do.
        for (int k = 0; k < 3; k++) {
            T.due("roads with " + k + " that fit are many", counts.getOrDefault(k, 0) >= 50, true);
        }
        T.end();
    }
}
