import java.util.ArrayList;
import java.util.List;
import java.util.Random;

/** Promises 6 to 22 on random small roads: every PLAN there is, tried one by one. */
public final class PlansBruteTest {
    private static final Told T = new Told("plans, tried one by one");
    private static final int NEVER = 1 << 28;

    /** Of all PLANS that can be: what is asked of them. */
    private static final class Best {
        int cost = NEVER;
        int[] plan;
        int rest;
        int fewest = NEVER;
        final int[] within = new int[10];
    }

    private static Best all(Model m, int has, int shutStation) {
        Best best = new Best();
        java.util.Arrays.fill(best.within, NEVER);
        tryAll(m, 0, has, new int[m.last()], shutStation, best);
        return best;
    }

    // Plans come in the order of their pints at the first station, then the second ..: the first of like ones stays.
    private static void tryAll(Model m, int i, int pints, int[] plan, int shutStation, Best best) {
        if (i == m.last()) {
            int cost = 0;
            int stops = 0;
            for (int s = 0; s < plan.length; s++) {
                if (plan[s] > 0) {
                    cost += plan[s] * m.price(s) + m.stopPence;
                    stops++;
                }
            }
            if (cost < best.cost) {
                best.cost = cost;
                best.plan = plan.clone();
                best.rest = pints;
            }
            best.fewest = Math.min(best.fewest, stops);
            for (int k = stops; k < 10; k++) {
                best.within[k] = Math.min(best.within[k], cost);
            }
            return;
        }
        boolean open = m.price(i) > 0 && i != shutStation;
        for (int n = 0; n <= (open ? m.tank - pints : 0); n++) {
            if (pints + n >= m.leg(i)) {
                plan[i] = n;
                tryAll(m, i + 1, pints + n - m.leg(i), plan, shutStation, best);
            }
        }
        plan[i] = 0;
    }

    private static int told(int cost) {
        return cost == NEVER ? -2 : cost;
    }

    private static void check(Model m, LastsToNext x, String text) {
        Best best = all(m, m.has, -1);
        T.due("cheapest " + text, x.cheapest(), told(best.cost));
        T.due("fewest " + text, x.fewest(), told(best.fewest));
        T.due("rest " + text, x.rest(), best.plan == null ? -2 : best.rest);
        for (int k = 0; k < 10; k++) {
            T.due("within " + k + " " + text, x.within(k), told(best.within[k]));
        }
        for (int i = 0; i < m.last(); i++) {
            T.due("how " + i + " " + text, x.how(i), best.plan == null ? -2 : best.plan[i]);
        }
        checkGaps(m, x, text, best);
        int need = -2;
        for (int has = m.tank; has >= 0; has--) {
            if (all(m, has, -1).plan != null) {
                need = has;
            }
        }
        T.due("need " + text, x.need(), need);
    }

    private static void checkGaps(Model m, LastsToNext x, String text, Best best) {
        int gap = -1;
        int greatest = -1;
        for (int i = 0; i < m.last(); i++) {
            if (m.price(i) == 0) {
                T.refused("without " + i + " " + text, x.without(i), x, 6);
                continue;
            }
            int cost = all(m, m.has, i).cost;
            T.due("without " + i + " " + text, x.without(i), told(cost));
            if (cost > greatest) {
                greatest = cost;
                gap = i;
            }
        }
        if (best.plan == null || gap == -1) {
            T.refused("gap " + text, x.gap(), x, 6);
        } else {
            T.accepted("gap " + text, x.gap(), gap, x);
        }
    }

    private static void checkTold(Model m, LastsToNext x, String text) {
        for (int a = 0; a < m.places; a++) {
            for (int b = 0; b < m.places; b++) {
                if (a != b) {
                    T.due("takes " + text, x.takes(a, b, false), m.pints[a][b] == 0 ? -2 : m.pints[a][b]);
                    T.due("minutes " + text, x.takes(a, b, true), m.pints[a][b] == 0 ? -2 : m.minutes[a][b]);
                }
            }
            T.due("pump 0 " + text, x.pump(a, 0), m.first[a] == 0 ? -1 : m.first[a]);
            T.due("pump 1 " + text, x.pump(a, 1), m.first[a] == 0 ? -1 : m.second[a] == 0 ? -2 : m.second[a]);
            T.due("pump 2 " + text, x.pump(a, 2), m.first[a] == 0 ? -1 : m.shut[a]);
        }
        int[] sizes = {m.tank, m.has, m.stopPence, m.stopMinutes, m.stuck, m.places, m.roads, m.pumps, m.way.size(), m.receipts.size()};
        for (int what = 0; what < sizes.length; what++) {
            T.due("size " + what + " " + text, x.size(what), sizes[what]);
        }
        for (int i = 0; i <= m.last(); i++) {
            T.due("station " + text, x.station(i), m.way.get(i));
            int sum = 0;
            List<Integer> sums = new ArrayList<>();
            for (int j = i; j < m.last(); j++) {
                sum += m.leg(j);
                sums.add(sum);
                T.due("legs " + text, x.legs(i, j + 1), sum);
            }
            for (int pints = 0; pints <= m.tank; pints++) {
                int reached = i;
                while (reached < m.last() && sums.get(reached - i) <= pints) {
                    reached++;
                }
                T.due("lasts " + text, x.lasts(i, pints), reached);
            }
        }
    }

    private static void checkPlan(Model m, LastsToNext x, String text, Random r) {
        int[] plan = new int[m.last()];
        Best best = all(m, m.has, -1);
        for (int i = 0; i < plan.length; i++) {
            plan[i] = best.plan != null && r.nextInt(4) > 0 ? best.plan[i] : r.nextInt(m.tank + 1);
            T.due("plan " + text, x.plan(i, plan[i]), true);
        }
        int pints = m.has;
        int cost = 0;
        int time = 0;
        int fails = -2;
        for (int i = 0; i < plan.length && fails == -2; i++) {
            pints += plan[i];
            if (plan[i] > 0 && m.price(i) == 0 || pints > m.tank || pints < m.leg(i)) {
                fails = i;
            }
            pints -= m.leg(i);
            cost += plan[i] > 0 ? plan[i] * m.price(i) + m.stopPence : 0;
            time += m.minutes[m.way.get(i)][m.way.get(i + 1)] + (plan[i] > 0 ? m.stopMinutes : 0);
        }
        T.due("judge " + text, x.judge(), fails);
        if (fails == -2) {
            T.accepted("cost " + text, x.cost(), cost, x);
            T.accepted("time " + text, x.time(), time, x);
        } else {
            T.refused("cost " + text, x.cost(), x, 5);
            T.refused("time " + text, x.time(), x, 5);
        }
    }

    public static void main(String[] args) {
        Random r = new Random(1);
        for (int round = 0; round < 1500; round++) {
            Model m = Model.random(r, 7, 8, 6);
            String text = m.text(r);
            check(m, Told.of(text), text);
            checkTold(m, Told.of(text), text);
            checkPlan(m, Told.of(text), text, r);
        }
        T.end();
    }
}
