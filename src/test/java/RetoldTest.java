import java.util.Random;

/** Promise 3: an object that was told other ROADS before, some with FAULTS, answers as a new one. */
public final class RetoldTest {
    private static final Told T = new Told("roads told again");

    private static String answers(LastsToNext x) {
        StringBuilder all = new StringBuilder();
        for (int what = 0; what < 14; what++) {
            all.append(x.size(what)).append(' ');
        }
        for (int a = 0; a < 9; a++) {
            for (int b = 0; b < 9; b++) {
                all.append(x.takes(a, b, false)).append(' ').append(x.takes(a, b, true)).append(' ');
            }
            for (int what = 0; what < 3; what++) {
                all.append(x.pump(a, what)).append(' ');
            }
            all.append(x.station(a)).append(' ').append(x.most(a)).append(' ').append(x.how(a)).append(' ');
            all.append(x.near(0, a)).append(' ').append(Told.led(x, a)).append(' ').append(x.car(a)).append('\n');
        }
        return all.toString();
    }

    private static String more(LastsToNext x) {
        StringBuilder all = new StringBuilder();
        all.append(x.judge()).append(' ').append(x.cheapest()).append(' ').append(x.fewest()).append(' ').append(x.rest()).append(' ');
        all.append(x.need()).append(' ').append(x.gap()).append(' ').append(x.net(true)).append(' ').append(x.worth()).append(' ');
        all.append(x.fits()).append(' ').append(x.went(false)).append(' ').append(x.went(true)).append(' ');
        all.append(x.needle(false)).append(' ').append(x.needle(true)).append(' ').append(x.bestRule()).append(' ');
        all.append(x.bestMean(false)).append(' ').append(x.bestMean(true)).append(' ').append(x.sure(false)).append(' ').append(x.sure(true));
        for (int rule = 0; rule < 4; rule++) {
            all.append(' ').append(x.mean(rule, false)).append(' ').append(x.odds(rule, true)).append(' ').append(x.through(rule, 5, 50));
        }
        return all.append(' ').append(x.undo()).append(' ').append(x.back(0)).append(' ').append(x.waits()).append(' ').append(x.size(10)).toString();
    }

    private static void same(String what, String text, String one, String two) {
        T.due(what + " " + text + "\n" + one + "\n" + two + "\n", one.equals(two), true);
    }

    public static void main(String[] args) {
        Random r = new Random(8);
        for (int round = 0; round < 2000; round++) {
            LastsToNext x = new LastsToNext();
            for (int told = 0; told < 3; told++) {
                Model m = Model.random(r, 9, 40, 9);
                if (told > 0 && m.text(null).length() > 300 && r.nextBoolean()) {
                    T.due("a text cut off", Told.tell(x, m.text(null).substring(0, 50 + r.nextInt(200))), -1);
                }
                String text = m.text(null);
                T.due("stations", Told.tell(x, text), m.way.size());
                LastsToNext fresh = Told.of(text);
                if (told == 2) {
                    same("told", text, answers(x), answers(fresh));
                } else {
                    same("reckoned", text, more(x), more(fresh));
                }
                x.fill(1);
                x.image();
                x.plan(0, 1);
            }
        }
        T.end();
    }
}
