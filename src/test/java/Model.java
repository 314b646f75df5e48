import java.util.ArrayList;
import java.util.List;
import java.util.Random;

/** A random ROAD, kept in the plainest form, for tests that reckon its answers anew. */
final class Model {
    int tank;
    int has;
    int stopPence;
    int stopMinutes;
    int stuck;
    int places;
    final int[][] pints = new int[9][9];
    final int[][] minutes = new int[9][9];
    final int[] first = new int[9];
    final int[] second = new int[9];
    final int[] shut = new int[9];
    int roads;
    int pumps;
    final List<Integer> way = new ArrayList<>();
    final List<int[]> receipts = new ArrayList<>();

    static Model random(Random r, int mostPlaces, int mostTank, int mostStations) {
        for (int attempt = 0; attempt < 1000; attempt++) {
            Model m = new Model();
            m.fill(r, mostPlaces, mostTank, mostStations);
            if (m.way.size() >= 2 && m.text(null).length() <= 800) {
                return m;
            }
        }
        throw new IllegalStateException("no road");
    }

    private void fill(Random r, int mostPlaces, int mostTank, int mostStations) {
        // Low numbers make many like answers, high ones long fractions; both are wanted.
        boolean high = r.nextInt(4) == 0;
        tank = 1 + r.nextInt(mostTank);
        has = r.nextInt(tank + 1);
        stopPence = r.nextInt(3) == 0 ? 0 : r.nextInt(high ? 100 : 12);
        stopMinutes = r.nextInt(high ? 61 : 12);
        stuck = r.nextInt(high ? 1000 : 60);
        places = 2 + r.nextInt(mostPlaces - 1);
        int wanted = Math.min(14, places - 1 + r.nextInt(places + 2));
        int longest = Math.max(1, tank * (r.nextInt(5) == 0 ? 3 : 2) / 3);
        for (int i = 0; i < wanted * 3 && roads < wanted; i++) {
            int a = r.nextInt(places);
            int b = r.nextInt(places);
            if (a != b && pints[a][b] == 0) {
                pints[a][b] = pints[b][a] = Math.min(40, 1 + r.nextInt(longest));
                minutes[a][b] = minutes[b][a] = r.nextInt(high ? 100 : 20);
                roads++;
            }
        }
        int prices = high ? 99 : r.nextInt(4) == 0 ? 3 : 12;
        for (int p = 0; p < places; p++) {
            if (r.nextInt(5) > 0 && pumps < 8) {
                first[p] = 1 + r.nextInt(prices);
                int other = 1 + r.nextInt(prices);
                second[p] = r.nextInt(2) == 0 && other != first[p] ? other : 0;
                shut[p] = r.nextInt(2) == 0 ? 0 : r.nextInt(10);
                pumps++;
            }
        }
        int at = r.nextInt(places);
        way.add(at);
        int stations = 2 + r.nextInt(mostStations - 1);
        for (int i = 1; i < stations; i++) {
            List<Integer> next = new ArrayList<>();
            for (int p = 0; p < places; p++) {
                if (pints[at][p] > 0 && (i < 2 || way.get(i - 2) != p || r.nextInt(3) == 0)) {
                    next.add(p);
                }
            }
            if (next.isEmpty()) {
                break;
            }
            at = next.get(r.nextInt(next.size()));
            way.add(at);
        }
        for (int i = r.nextInt(5); i > 0; i--) {
            int p = r.nextInt(places);
            if (first[p] > 0) {
                int price = second[p] > 0 && r.nextBoolean() ? second[p] : first[p];
                receipts.add(new int[] {p, r.nextInt(9) == 0 ? 1 + r.nextInt(40) : price * (1 + r.nextInt(Math.min(tank, 999 / price)))});
            }
        }
    }

    String text(Random r) {
        StringBuilder t = new StringBuilder("car tank " + tank + " has " + has + " stop " + stopPence + "," + stopMinutes + " stuck " + stuck);
        for (int p = 0; p < places; p++) {
            t.append(";place ").append((char) ('a' + p));
        }
        for (int a = 0; a < places; a++) {
            for (int b = a + 1; b < places; b++) {
                if (pints[a][b] > 0) {
                    boolean turned = r != null && r.nextBoolean();
                    t.append(";road ").append((char) ('a' + (turned ? b : a))).append(' ').append((char) ('a' + (turned ? a : b)))
                            .append(" takes ").append(pints[a][b]).append(" minutes ").append(minutes[a][b]);
                }
            }
        }
        for (int p = 0; p < places; p++) {
            if (first[p] > 0) {
                t.append(";pump ").append((char) ('a' + p)).append(" price ").append(first[p]);
                if (second[p] > 0) {
                    t.append(" or ").append(second[p]);
                }
                t.append(" shut ").append(shut[p]);
            }
        }
        t.append(";way ");
        for (int i = 0; i < way.size(); i++) {
            t.append(i > 0 ? "," : "").append((char) ('a' + way.get(i)));
        }
        for (int[] receipt : receipts) {
            t.append(";receipt ").append((char) ('a' + receipt[0])).append(' ').append(receipt[1]);
        }
        return t.toString();
    }

    int last() {
        return way.size() - 1;
    }

    int leg(int i) {
        return pints[way.get(i)][way.get(i + 1)];
    }

    int price(int i) {
        return first[way.get(i)];
    }
}
