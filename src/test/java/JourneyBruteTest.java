import java.util.ArrayList;
import java.util.List;
import java.util.Random;

/** Promises 47 to 55 and 57: random ACTS beside a plain model that copies all before each. */
public final class JourneyBruteTest {
    private static final Told T = new Told("journeys");

    private static final class Car implements Cloneable {
        int place;
        int pints;
        int pence;
        int minutes;
        int price;
        boolean paid;
        long seed;

        Car copy() {
            try {
                return (Car) clone();
            } catch (CloneNotSupportedException e) {
                throw new IllegalStateException(e);
            }
        }
    }

    private static void come(Model m, Car car) {
        car.paid = false;
        car.price = -2;
        if (m.first[car.place] > 0) {
            car.seed = (75 * car.seed + 74) % 65537;
            boolean shut = car.seed % 10 < m.shut[car.place];
            int price = m.first[car.place];
            if (m.second[car.place] > 0) {
                car.seed = (75 * car.seed + 74) % 65537;
                price = car.seed % 2 == 0 ? price : m.second[car.place];
            }
            car.price = shut ? -2 : price;
        }
    }

    private static void journey(Model m, String text, Random r) {
        LastsToNext x = Told.of(text);
        Car car = new Car();
        car.place = m.way.get(0);
        car.pints = m.has;
        come(m, car);
        List<Car> before = new ArrayList<>();
        List<Car> images = new ArrayList<>();
        for (int step = 0; step < 30; step++) {
            int what = r.nextInt(12);
            if (what < 3) {
                int n = r.nextInt(m.tank - car.pints + 3) - 1;
                int got = x.fill(n);
                if (car.price == -2) {
                    T.refused("fill " + text, got, x, 6);
                } else if (n < 1 || n > m.tank - car.pints) {
                    T.refused("fill " + text, got, x, 2);
                } else {
                    before.add(car.copy());
                    car.pence += n * car.price + (car.paid ? 0 : m.stopPence);
                    car.minutes += car.paid ? 0 : m.stopMinutes;
                    car.pints += n;
                    car.paid = true;
                    T.accepted("fill " + text, got, car.pence, x);
                }
            } else if (what < 7) {
                int place = r.nextInt(m.places + 2) - 1;
                int got = x.drive(place);
                if (place < 0 || place >= m.places || place == car.place) {
                    T.refused("drive " + text, got, x, 1);
                } else if (m.pints[car.place][place] == 0) {
                    T.refused("drive " + text, got, x, 6);
                } else if (m.pints[car.place][place] > car.pints) {
                    T.refused("drive " + text, got, x, 5);
                } else {
                    before.add(car.copy());
                    car.pints -= m.pints[car.place][place];
                    car.minutes += m.minutes[car.place][place];
                    car.place = place;
                    come(m, car);
                    T.accepted("drive " + text, got, car.pints, x);
                }
            } else if (what < 9) {
                before.add(car.copy());
                car.minutes += 10;
                come(m, car);
                T.accepted("waits " + text, x.waits(), car.price, x);
            } else if (what == 9) {
                int v = r.nextInt(5) == 0 ? 65537 * r.nextInt(2) - r.nextInt(2) : r.nextInt(65537);
                boolean got = x.seed(v);
                if (v < 0 || v > 65536) {
                    T.refused("seed " + text, got, x, 2);
                } else {
                    car.seed = v;
                    T.due("seed " + text, got, true);
                }
            } else if (what == 10) {
                boolean got = x.undo();
                if (before.isEmpty()) {
                    T.refused("undo " + text, got, x, 6);
                } else {
                    car = before.remove(before.size() - 1);
                    T.due("undo " + text, got, true);
                }
            } else if (r.nextBoolean()) {
                int got = x.image();
                if (images.size() == 3) {
                    T.refused("image " + text, got, x, 3);
                } else {
                    T.accepted("image " + text, got, images.size(), x);
                    images.add(car.copy());
                }
            } else {
                int k = r.nextInt(4) - r.nextInt(2);
                boolean got = x.back(k);
                if (k < 0 || k >= images.size()) {
                    T.refused("back " + text, got, x, 1);
                } else {
                    T.due("back " + text, got, true);
                    car = images.get(k).copy();
                    before.clear();
                }
            }
            while (before.size() > 12) {
                before.remove(0);
            }
            compare(m, x, car, text);
            T.due("undoable " + text, x.size(11), before.size());
            T.due("images " + text, x.size(12), images.size());
        }
    }

    private static void compare(Model m, LastsToNext x, Car car, String text) {
        int[] parts = {car.place, car.pints, car.pence, car.minutes, car.price};
        for (int what = 0; what < parts.length; what++) {
            T.due("car " + what + " " + text, x.car(what), parts[what]);
        }
        T.due("seed " + text, x.size(10), car.seed);
        int i = 0;
        for (int p = 0; p < m.places; p++) {
            if (m.pints[car.place][p] > 0 && m.pints[car.place][p] <= car.pints) {
                T.due("led " + i + " " + text, Told.led(x, i), p);
                i++;
            }
        }
        T.due("led " + text, Told.led(x, i), -1);
        T.due("led -1 " + text, Told.led(x, -1), -1);
    }

    public static void main(String[] args) {
        Random r = new Random(4);
        for (int round = 0; round < 3000; round++) {
            Model m = Model.random(r, 7, round % 3 == 0 ? 40 : 12, 9);
            journey(m, m.text(r), r);
        }
        T.end();
    }
}
