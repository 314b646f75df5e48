import java.lang.management.ManagementFactory;
import java.util.Random;

/** One room for all calls of a run: an object is small, and its calls make nothing. */
public final class RoomTest {
    private static final Told T = new Told("room");
    private static final int OBJECT = 60_000;
    /** What asking for the count makes by itself, and far less than an object for each of the calls. */
    private static final int CALLS = 2_000;

    private static long made() {
        return ((com.sun.management.ThreadMXBean) ManagementFactory.getThreadMXBean()).getCurrentThreadAllocatedBytes();
    }

    /** Each call whose work grows with the road, some rounds of it. */
    private static long askAll(LastsToNext x) {
        long sum = 0;
        for (int i = 0; i < 9; i++) {
            sum += x.cheapest() + x.how(i) + x.fewest() + x.within(i) + x.without(i) + x.gap() + x.rest() + x.need() + x.judge() + x.cost() + x.time();
            sum += x.mean(i % 4, true) + x.odds(i % 4, true) + x.bestRule() + x.bestMean(true) + x.sure(false) + x.buy(i, 0, false) + x.buys(1, i, 0, true);
            sum += x.net(true) + x.net(false) + x.most(i) + x.near(0, i) + x.worth() + x.far(12, true, true) + x.loads(999, true) + x.depot(9, true, 5, true);
            sum += x.convoy(12, true) + x.fits() + x.fit(i, 0) + x.went(true) + x.needle(true) + x.run(i % 4, i) + x.through(2, i, 50) + x.beats(0, 1, i, 50);
            sum += x.fill(1) + x.drive(i) + x.waits() + x.image() + x.size(i) + x.trouble() + x.stuckAt(0) + x.byRule(1) + x.lasts(0, i) + x.legs(0, i);
            sum += x.plan(i, 1) && x.seed(i) && x.undo() && x.back(0) ? 1 : 0;
        }
        return sum;
    }

    public static void main(String[] args) {
        Random r = new Random(9);
        long sum = askAll(Told.of(Told.ROAD));
        made();
        for (int round = 0; round < 20; round++) {
            long before = made();
            LastsToNext x = new LastsToNext();
            T.due("bytes of an object", made() - before < OBJECT, true);
            Told.feed(x, Model.random(r, 9, 40, 9).text(r));
            int length = x.size(13);
            before = made();
            x.road(length);
            sum += askAll(x);
            T.due("bytes made by calls", made() - before < CALLS, true);
        }
        T.due("answers came", sum != 0, true);
        T.end();
    }
}
