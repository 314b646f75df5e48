import java.util.HashMap;
import java.util.Map;
import java.util.Random;

/** Promises 23 to 31 and 44 to 46 on random roads, by exact fractions and plain recursion. */
public final class DriversBruteTest {
    private static final Told T = new Told("drivers");

    /** What a RULE buys, by its words. */
    static int wants(Model m, int rule, int i, int pints, int price) {
        int lacksFull = m.tank - pints;
        if (rule == 0) {
            return lacksFull;
        }
        if (rule == 3) {
            return pints + pints < m.tank ? lacksFull : 0;
        }
        int target = m.last();
        for (int j = m.last() - 1; j > i; j--) {
            boolean is = rule == 1 ? m.price(j) > 0 && m.price(j) < price : m.price(j) > 0;
            target = is ? j : target;
        }
        int distance = 0;
        for (int j = i; j < target; j++) {
            distance += m.leg(j);
        }
        if (distance > m.tank) {
            return lacksFull;
        }
        return distance > pints ? distance - pints : 0;
    }

    /** Pence on the mean (or, chance, whether it gets through) from a station on; rule 4 is the best, 5 the surest. */
    private static Ratio expect(Model m, int rule, boolean chance, int i, int pints, Map<Integer, Ratio> seen) {
        if (i == m.last()) {
            return chance ? Ratio.ONE : Ratio.ZERO;
        }
        Ratio known = seen.get(i * 100 + pints);
        if (known != null) {
            return known;
        }
        int place = m.way.get(i);
        Ratio sum = Ratio.ZERO;
        if (m.first[place] == 0) {
            sum = leave(m, rule, chance, i, pints, seen);
        } else {
            sum = leave(m, rule, chance, i, pints, seen).times(Ratio.of(m.shut[place], 10));
            int[] prices = m.second[place] > 0 ? new int[] {m.first[place], m.second[place]} : new int[] {m.first[place]};
            for (int price : prices) {
                Ratio here = atPump(m, rule, chance, i, pints, price, seen);
                sum = sum.plus(here.times(Ratio.of(10 - m.shut[place], 10L * prices.length)));
            }
        }
        seen.put(i * 100 + pints, sum);
        return sum;
    }

    private static Ratio atPump(Model m, int rule, boolean chance, int i, int pints, int price, Map<Integer, Ratio> seen) {
        if (rule < 4) {
            return buying(m, rule, chance, i, pints, price, wants(m, rule, i, pints, price), seen);
        }
        Ratio best = null;
        for (int n = 0; n <= m.tank - pints; n++) {
            Ratio one = buying(m, rule, chance, i, pints, price, n, seen);
            if (best == null || (chance ? one.compareTo(best) > 0 : one.compareTo(best) < 0)) {
                best = one;
            }
        }
        return best;
    }

    private static Ratio buying(Model m, int rule, boolean chance, int i, int pints, int price, int n, Map<Integer, Ratio> seen) {
        Ratio ahead = leave(m, rule, chance, i, pints + n, seen);
        return chance || n == 0 ? ahead : ahead.plus(Ratio.of((long) n * price + m.stopPence, 1));
    }

    private static Ratio leave(Model m, int rule, boolean chance, int i, int pints, Map<Integer, Ratio> seen) {
        if (pints < m.leg(i)) {
            return chance ? Ratio.ZERO : Ratio.of(m.stuck, 1);
        }
        return expect(m, rule, chance, i + 1, pints - m.leg(i), seen);
    }

    private static int bestBuy(Model m, int i, int pints, int price) {
        Map<Integer, Ratio> seen = new HashMap<>();
        int least = 0;
        Ratio best = null;
        for (int n = 0; n <= m.tank - pints; n++) {
            Ratio one = buying(m, 4, false, i, pints, price, n, seen);
            if (best == null || one.compareTo(best) < 0) {
                best = one;
                least = n;
            }
        }
        return least;
    }

    private static void checkMeans(Model m, LastsToNext x, String text) {
        Ratio best = null;
        int bestRule = 0;
        for (int rule = 0; rule < 4; rule++) {
            Ratio mean = expect(m, rule, false, 0, m.has, new HashMap<>());
            Ratio odds = expect(m, rule, true, 0, m.has, new HashMap<>());
            T.due("mean " + rule + " " + text, x.mean(rule, false), mean.upper.longValueExact());
            T.due("mean " + rule + " " + text, x.mean(rule, true), mean.lower.longValueExact());
            T.due("odds " + rule + " " + text, x.odds(rule, false), odds.upper.longValueExact());
            T.due("odds " + rule + " " + text, x.odds(rule, true), odds.lower.longValueExact());
            if (best == null || mean.compareTo(best) < 0) {
                best = mean;
                bestRule = rule;
            }
        }
        T.due("bestRule " + text, x.bestRule(), bestRule);
        Ratio mean = expect(m, 4, false, 0, m.has, new HashMap<>());
        T.due("bestMean " + text, x.bestMean(false), mean.upper.longValueExact());
        T.due("bestMean " + text, x.bestMean(true), mean.lower.longValueExact());
        Ratio sure = expect(m, 5, true, 0, m.has, new HashMap<>());
        T.due("sure " + text, x.sure(false), sure.upper.longValueExact());
        T.due("sure " + text, x.sure(true), sure.lower.longValueExact());
    }

    private static void checkBuying(Model m, LastsToNext x, String text) {
        for (int i = 0; i < m.last(); i++) {
            for (int pints = 0; pints <= m.tank; pints += 1 + m.tank / 6) {
                for (int dear = 0; dear < 2; dear++) {
                    int price = dear == 1 ? m.second[m.way.get(i)] : m.price(i);
                    for (int rule = 0; rule < 4; rule++) {
                        if (price == 0) {
                            T.refused("buys " + text, x.buys(rule, i, pints, dear == 1), x, 6);
                        } else {
                            T.due("buys " + text, x.buys(rule, i, pints, dear == 1), wants(m, rule, i, pints, price));
                        }
                    }
                    T.due("buy " + text, x.buy(i, pints, dear == 1), price == 0 ? -1 : bestBuy(m, i, pints, price));
                }
            }
        }
    }

    /** Pence of a RUN, or -2 less the station where it is STUCK (-2: at station 0); a SEED below 0: all open at FIRST prices. */
    private static int run(Model m, int rule, int seed) {
        long s = seed;
        int pints = m.has;
        int pence = 0;
        for (int i = 0; i < m.last(); i++) {
            int place = m.way.get(i);
            boolean open = m.first[place] > 0;
            int price = m.first[place];
            if (open && seed >= 0) {
                s = (75 * s + 74) % 65537;
                open = s % 10 >= m.shut[place];
                if (m.second[place] > 0) {
                    s = (75 * s + 74) % 65537;
                    price = s % 2 == 0 ? m.first[place] : m.second[place];
                }
            }
            int n = open ? wants(m, rule, i, pints, price) : 0;
            pence += n > 0 ? n * price + m.stopPence : 0;
            pints += n;
            if (pints < m.leg(i)) {
                return -2 - i;
            }
            pints -= m.leg(i);
        }
        return pence;
    }

    private static void checkRuns(Model m, LastsToNext x, String text, Random r) {
        int seed = r.nextInt(3) == 0 ? 65537 - r.nextInt(20) - 1 : r.nextInt(65537);
        int n = 1 + r.nextInt(50);
        for (int rule = 0; rule < 4; rule++) {
            int open = run(m, rule, -1);
            T.due("byRule " + text, x.byRule(rule), Math.max(open, -2));
            T.due("stuckAt " + text, x.stuckAt(rule), open >= 0 ? -2 : -2 - open);
            T.due("run " + text, x.run(rule, seed), Math.max(-2, run(m, rule, seed)));
            int through = 0;
            for (int k = 0; k < n; k++) {
                through += run(m, rule, (seed + k) % 65537) >= 0 ? 1 : 0;
            }
            T.due("through " + text, x.through(rule, seed, n), through);
            for (int other = 0; other < 4; other++) {
                int beats = 0;
                for (int k = 0; k < n; k++) {
                    int one = run(m, rule, (seed + k) % 65537);
                    int two = run(m, other, (seed + k) % 65537);
                    beats += one >= 0 && (two < 0 || one < two) ? 1 : 0;
                }
                T.due("beats " + text, x.beats(rule, other, seed, n), beats);
            }
        }
        T.due("seed stays " + text, x.size(10), m.first[m.way.get(0)] == 0 ? 0 : m.second[m.way.get(0)] == 0 ? 74 : 5624);
    }

    public static void main(String[] args) {
        Random r = new Random(2);
        for (int round = 0; round < 800; round++) {
            Model m = Model.random(r, round % 2 == 0 ? 6 : 9, round % 4 == 0 ? 40 : 9, round % 2 == 0 ? 5 : 9);
            String text = m.text(r);
            LastsToNext x = Told.of(text);
            checkMeans(m, x, text);
            checkRuns(m, x, text, r);
            checkBuying(m, Told.of(text), text);
        }
        T.end();
    }
}
