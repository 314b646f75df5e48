/** Promises 44 to 57: every bound and every refusal that is named there, on both of its sides. */
public final class JourneyBoundsTest {
    private static final Told T = new Told("bounds of journeys");
    private static final int LOW = Integer.MIN_VALUE;
    private static final int HIGH = Integer.MAX_VALUE;
    private static final int FULL = 0;
    private static final int LATE = 2;

    /** DRAWS from SEED 0: 74, 5624, 28652, 51790; from 1: 149, 11249; 65,536 draws itself. */
    private static final int FIRST = 74;
    private static final int SECOND = 5624;
    private static final int THIRD = 28652;

    public static void main(String[] args) {
        run();
        draws();
        through();
        beats();
        wrongRuns();
        car();
        fill();
        stops();
        drive();
        waits();
        seed();
        undo();
        undoAll();
        image();
        back();
        led();
        size();
        trouble();
        manyCalls();
        T.end();
    }

    private static String pumped(String pump) {
        return Told.row("tank 5 has 0 stop 1,2 stuck 9", pump, 5, "");
    }

    private static void runs(String text, int seed, int pence) {
        LastsToNext x = Told.of(text);
        T.accepted("44 SEED " + seed + " " + text, x.run(FULL, seed), pence, x);
    }

    /** 44: "-2 it is STUCK"; a DRAW mod 10 below shut: it is SHUT. */
    private static void run() {
        for (int shut = 0; shut < 10; shut++) {
            // 74, 149, 65,536 and 3 * 75 + 74 = 299, 6 * 75 + 74 = 524.
            runs(pumped("2 shut " + shut), 0, shut > 4 ? -2 : 11);
            runs(pumped("2 shut " + shut), 1, 11);
            runs(pumped("2 shut " + shut), 65536, shut > 6 ? -2 : 11);
            runs(pumped("2 shut " + shut), 3, 11);
            runs(pumped("2 shut " + shut), 6, shut > 4 ? -2 : 11);
        }
        // A DRAW mod 2: 0 the first, 1 the second.
        runs(pumped("2 or 3 shut 4"), 0, 11);
        runs(pumped("2 or 3 shut 4"), 1, 16);
        runs(pumped("2 or 3 shut 4"), 65536, 11);
        runs(pumped("2 or 1 shut 4"), 1, 6);
        runs(pumped("1 or 2 shut 4"), 0, 6);
        // STUCK behind a station where it has paid; just enough isn't STUCK.
        runs(Told.row("tank 5 has 0 stop 1,2 stuck 9", "2 shut 0", 5, "", 1, ""), 0, -2);
        runs(Told.row("tank 5 has 5 stop 1,2 stuck 9", "", 4, "", 1, ""), 0, 0);
        runs(Told.row("tank 5 has 4 stop 1,2 stuck 9", "", 4, "", 1, ""), 0, -2);
    }

    /** 44: DRAWS at all stations with a pump but the last, in their order. */
    private static void draws() {
        // No pump, no DRAW: station 1 has the first one, 74.
        runs(Told.row("tank 5 has 1 stop 1,2 stuck 9", "", 1, "2 shut 5", 5, ""), 0, -2);
        runs(Told.row("tank 5 has 1 stop 1,2 stuck 9", "", 1, "2 shut 4", 5, ""), 0, 11);
        // One price, one DRAW: station 1 has the second one, 5624; two prices, two: it has the third one, 28652.
        runs(Told.row("tank 5 has 5 stop 1,2 stuck 9", "9 shut 0", 5, "2 shut 4", 5, ""), 0, 11);
        runs(Told.row("tank 5 has 5 stop 1,2 stuck 9", "9 shut 0", 5, "2 shut 5", 5, ""), 0, -2);
        runs(Told.row("tank 5 has 5 stop 1,2 stuck 9", "9 or 8 shut 0", 5, "2 shut 2", 5, ""), 0, 11);
        runs(Told.row("tank 5 has 5 stop 1,2 stuck 9", "9 or 8 shut 0", 5, "2 shut 3", 5, ""), 0, -2);
        // SHUT or not, a pump with two prices takes two.
        runs(Told.row("tank 5 has 5 stop 1,2 stuck 9", "9 or 8 shut 9", 5, "2 shut 2", 5, ""), 0, 11);
        runs(Told.row("tank 5 has 5 stop 1,2 stuck 9", "9 or 8 shut 9", 5, "2 shut 3", 5, ""), 0, -2);
        // The JOURNEY's own SEED is another one.
        LastsToNext x = Told.of(pumped("2 shut 0"));
        x.seed(17);
        x.run(FULL, 5);
        x.through(FULL, 5, 50);
        x.beats(FULL, LATE, 5, 50);
        T.due("44 SEED stays", x.size(10), 17);
        T.due("44 no ACT", x.size(11), 0);
        T.accepted("44 the car stays", x.car(1), 0, x);
    }

    /** 45: n RUNS (1 .. 50) by a SEED, the next one, .. (round). */
    private static void through() {
        // SEEDS 0 to 9 draw 74 and 75 more each: mod 10 4, 9, 4, 9, ..: SHUT by 5 each other time.
        LastsToNext x = Told.of(pumped("2 shut 5"));
        T.accepted("45 one", x.through(FULL, 0, 1), 0, x);
        T.accepted("45 one", x.through(FULL, 1, 1), 1, x);
        T.accepted("45", x.through(FULL, 0, 2), 1, x);
        T.accepted("45", x.through(FULL, 0, 50), 25, x);
        // Behind 65,536 (open by 5, SHUT by 7) comes 0, then 1.
        T.accepted("45 round", x.through(FULL, 65536, 1), 1, x);
        T.accepted("45 round", x.through(FULL, 65536, 2), 1, x);
        T.accepted("45 round", x.through(FULL, 65536, 3), 2, x);
        LastsToNext y = Told.of(pumped("2 shut 7"));
        T.accepted("45 round", y.through(FULL, 65536, 1), 0, y);
        T.accepted("45 round", y.through(FULL, 65536, 3), 1, y);
        LastsToNext z = Told.of(pumped("2 shut 0"));
        T.accepted("45 all", z.through(FULL, 65536, 50), 50, z);
        LastsToNext w = Told.of(pumped(""));
        T.accepted("45 none", w.through(FULL, 0, 50), 0, w);
    }

    /** 46: for less than the other, or where the other is STUCK. */
    private static void beats() {
        LastsToNext x = Told.of(pumped("2 shut 5"));
        T.accepted("46 as much isn't less", x.beats(FULL, LATE, 0, 50), 0, x);
        T.accepted("46 itself", x.beats(FULL, FULL, 0, 50), 0, x);
        // LATE pays for one pint, FULL for five.
        LastsToNext y = Told.of(Told.row("tank 5 has 0 stop 1,2 stuck 9", "2 shut 5", 1, ""));
        T.accepted("46 for less, SHUT aside", y.beats(LATE, FULL, 0, 50), 25, y);
        T.accepted("46", y.beats(FULL, LATE, 0, 50), 0, y);
        T.accepted("46 round", y.beats(LATE, FULL, 65536, 3), 2, y);
        LastsToNext w = Told.of(Told.row("tank 5 has 0 stop 1,2 stuck 9", "2 shut 0", 1, ""));
        T.accepted("46 all", w.beats(LATE, FULL, 5, 50), 50, w);
        T.accepted("46 one", w.beats(LATE, FULL, 5, 1), 1, w);
        // HALF with half a tank is STUCK, FULL comes through though it pays.
        LastsToNext z = Told.of(Told.row("tank 10 has 5 stop 1,2 stuck 0", "2 shut 0", 6, ""));
        T.accepted("46 the other is STUCK", z.beats(FULL, 3, 0, 50), 50, z);
        T.accepted("46 STUCK itself", z.beats(3, FULL, 0, 50), 0, z);
        T.accepted("46 both are STUCK", z.beats(3, 3, 0, 50), 0, z);
        T.accepted("46 one", z.beats(FULL, 3, 0, 1), 1, z);
    }

    /** 44 to 46: "NONE: 1 (no ROAD, no such RULE); 2 (0 .. 65,536)"; n 1 .. 50. */
    private static void wrongRuns() {
        LastsToNext x = Told.of(pumped("2 shut 5"));
        LastsToNext none = new LastsToNext();
        for (int rule : new int[] {-1, 4, 5, HIGH, LOW}) {
            for (int seed : new int[] {0, -1, 65537}) {
                T.refused("44", x.run(rule, seed), x, 1);
                T.refused("45", x.through(rule, seed, 0), x, 1);
                T.refused("46", x.beats(rule, 0, seed, 1), x, 1);
                T.refused("46", x.beats(0, rule, seed, 51), x, 1);
            }
        }
        for (int rule = 0; rule < 4; rule++) {
            for (int seed : new int[] {-1, 65537, HIGH, LOW}) {
                T.refused("44", x.run(rule, seed), x, 2);
                T.refused("45", x.through(rule, seed, 1), x, 2);
                T.refused("46", x.beats(rule, 3 - rule, seed, 1), x, 2);
            }
            for (int n : new int[] {0, 51, -1, HIGH, LOW}) {
                T.refused("45", x.through(rule, 65536, n), x, 2);
                T.refused("46", x.beats(rule, 3 - rule, 0, n), x, 2);
            }
            T.refused("44 no ROAD", none.run(rule, -1), none, 1);
            T.refused("45 no ROAD", none.through(rule, -1, 0), none, 1);
            T.refused("46 no ROAD", none.beats(rule, rule, -1, 0), none, 1);
        }
    }

    /** 47: "4 the price here (-2 no pump, SHUT). NONE: 1". */
    private static void car() {
        car(pumped("7 or 8 shut 4"), 0, 0, 0, 0, 7);
        car(pumped("7 or 8 shut 5"), 0, 0, 0, 0, -2);
        car(pumped(""), 0, 0, 0, 0, -2);
        LastsToNext x = Told.of(pumped("7 shut 4"));
        for (int what : new int[] {-1, 5, 6, HIGH, LOW}) {
            T.refused("47", x.car(what), x, 1);
        }
        LastsToNext none = new LastsToNext();
        for (int what = -1; what < 6; what++) {
            T.refused("47 no ROAD", none.car(what), none, 1);
        }
    }

    private static void car(String text, int... parts) {
        car(Told.of(text), parts);
    }

    private static void car(LastsToNext x, int... parts) {
        for (int what = 0; what < 5; what++) {
            T.accepted("47 " + what, x.car(what), parts[what], x);
        }
    }

    /** 48: "NONE: 1 (no ROAD); 6 (no pump, SHUT); 2 (1 up to what the tank can take)". */
    private static void fill() {
        LastsToNext x = Told.of(Told.row("tank 5 has 2 stop 1,2 stuck 9", "7 shut 4", 5, ""));
        for (int n : new int[] {0, 4, -1, HIGH, LOW}) {
            T.refused("48", x.fill(n), x, 2);
        }
        T.due("48 refused, no ACT", x.size(11), 0);
        car(x, 0, 2, 0, 0, 7);
        T.accepted("48 just full", x.fill(3), 22, x);
        car(x, 0, 5, 22, 2, 7);
        for (int n : new int[] {0, 1, 5}) {
            T.refused("48 full", x.fill(n), x, 2);
        }
        T.due("48 an ACT", x.size(11), 1);
        T.accepted("49", x.drive(1), 0, x);
        for (int n : new int[] {1, 5, 0, 6, HIGH, LOW}) {
            T.refused("48 no pump", x.fill(n), x, 6);
        }
        LastsToNext y = Told.of(Told.row("tank 5 has 2 stop 1,2 stuck 9", "7 shut 5", 5, ""));
        for (int n : new int[] {1, 3, 0, 4, HIGH, LOW}) {
            T.refused("48 SHUT", y.fill(n), y, 6);
        }
        LastsToNext z = Told.of(Told.row("tank 1 has 0 stop 0,0 stuck 9", "1 shut 0", 1, ""));
        T.refused("48", z.fill(2), z, 2);
        T.accepted("48 least", z.fill(1), 1, z);
        LastsToNext none = new LastsToNext();
        T.refused("48 no ROAD", none.fill(1), none, 1);
        T.refused("48 no ROAD", none.fill(0), none, 1);
        LastsToNext w = Told.of(Told.row("tank 40 has 0 stop 99,60 stuck 9", "99 shut 0", 1, ""));
        T.accepted("48 most", w.fill(40), 40 * 99 + 99, w);
    }

    /** 48: a stop is paid with the first BUY since it came (or waited), its minutes, too; then the price seen here. */
    private static void stops() {
        LastsToNext x = Told.of("car tank 9 has 1 stop 10,20 stuck 9;place a;place b;road a b takes 1 minutes 3;pump a price 1 shut 0;"
                + "pump b price 2 or 3 shut 0;way a,b");
        T.accepted("48 the first", x.fill(1), 11, x);
        T.accepted("48 the second", x.fill(1), 12, x);
        car(x, 0, 3, 12, 20, 1);
        x.seed(1);
        T.accepted("49", x.drive(1), 2, x);
        T.accepted("48 there, at the second price", x.fill(1), 25, x);
        T.accepted("48 no more to pay", x.fill(1), 28, x);
        car(x, 1, 4, 28, 43, 3);
        x.seed(0);
        T.accepted("50 the first price now", x.waits(), 2, x);
        T.accepted("48 waited: to pay again", x.fill(1), 40, x);
        car(x, 1, 5, 40, 73, 2);
        T.accepted("49 back", x.drive(0), 4, x);
        T.accepted("48 come again: to pay again", x.fill(1), 51, x);
        car(x, 0, 5, 51, 96, 1);
        // A refused drive is no coming.
        x.drive(0);
        T.accepted("48 paid already", x.fill(1), 52, x);
        // An UNDO brings back what was paid, or wasn't.
        x.undo();
        x.undo();
        T.accepted("48 to pay once more", x.fill(1), 51, x);
        T.accepted("48", x.fill(1), 52, x);
        x.image();
        x.waits();
        x.back(0);
        T.accepted("48 paid by the IMAGE", x.fill(1), 53, x);
    }

    /** 49: "NONE: 1 (PLACE; where it is); 6 (no road); 5 (it doesn't last)". */
    private static void drive() {
        LastsToNext x = Told.of("car tank 9 has 4 stop 1,2 stuck 9;place a;place b;place c;place d;road a b takes 4 minutes 7;road a c takes 5 minutes 8;"
                + "road c d takes 1 minutes 0;pump d price 9 shut 0;way b,a");
        for (int place : new int[] {-1, 4, 1, HIGH, LOW}) {
            T.refused("49", x.drive(place), x, 1);
        }
        T.refused("49 no road", x.drive(2), x, 6);
        T.refused("49 no road", x.drive(3), x, 6);
        T.due("49 refused, no ACT", x.size(11), 0);
        T.accepted("49 just enough", x.drive(0), 0, x);
        car(x, 0, 0, 0, 7, -2);
        T.refused("49 it doesn't last", x.drive(1), x, 5);
        T.refused("49 it doesn't last", x.drive(2), x, 5);
        T.refused("49 no road", x.drive(3), x, 6);
        T.refused("49 where it is", x.drive(0), x, 1);
        T.due("49 an ACT", x.size(11), 1);
        LastsToNext y = Told.of(Told.row("tank 9 has 4 stop 1,2 stuck 9", "", 5, ""));
        T.refused("49 one pint too few", y.drive(1), y, 5);
        LastsToNext z = Told.of(Told.row("tank 9 has 6 stop 1,2 stuck 9", "", 5, ""));
        T.accepted("49 one is left", z.drive(1), 1, z);
        // The last station's PLACE has its DRAW, too, on a JOURNEY.
        LastsToNext w = Told.of(Told.row("tank 9 has 6 stop 1,2 stuck 9", "3 shut 0", 5, "8 or 9 shut 0"));
        T.due("47", w.size(10), FIRST);
        w.drive(1);
        T.due("49 two DRAWS", w.size(10), THIRD);
        LastsToNext none = new LastsToNext();
        T.refused("49 no ROAD", none.drive(0), none, 1);
        T.refused("49 no ROAD", none.drive(1), none, 1);
    }

    /** 50: "the price here then (-2 no pump, SHUT). NONE: 1 (no ROAD)". */
    private static void waits() {
        LastsToNext x = Told.of(pumped("2 or 3 shut 5"));
        T.due("50", x.size(10), SECOND);
        x.seed(0);
        T.accepted("50 SHUT", x.waits(), -2, x);
        T.due("50", x.size(10), SECOND);
        x.seed(1);
        T.accepted("50 the second", x.waits(), 3, x);
        x.seed(65536);
        T.accepted("50 the first", x.waits(), 2, x);
        car(x, 0, 0, 0, 30, 2);
        T.due("50 ACTS", x.size(11), 3);
        LastsToNext y = Told.of(pumped(""));
        T.accepted("50 no pump", y.waits(), -2, y);
        T.due("50 no DRAW", y.size(10), 0);
        car(y, 0, 0, 0, 10, -2);
        T.due("50 an ACT", y.size(11), 1);
        LastsToNext none = new LastsToNext();
        T.refused("50 no ROAD", none.waits(), none, 1);
        T.due("50 no ROAD", none.size(11), 0);
    }

    /** 51: "SEED (no ACT): true; false: 1 (no ROAD); 2 (0 .. 65,536)". */
    private static void seed() {
        LastsToNext x = Told.of(pumped("2 or 3 shut 5"));
        for (int v : new int[] {0, 1, 65535, 65536}) {
            x.station(-1);
            T.due("51 " + v, x.seed(v), true);
            T.due("57 of seed", x.trouble(), 0);
            T.due("56 SEED", x.size(10), v);
            for (int wrong : new int[] {-1, 65537, HIGH, LOW}) {
                T.refused("51", x.seed(wrong), x, 2);
                T.due("51 refused, it stays", x.size(10), v);
            }
        }
        T.due("51 no ACT", x.size(11), 0);
        T.refused("52", x.undo(), x, 6);
        // DRAWS round by 65,537: 75 times 872 and 74 are below it, 75 times 873 and 74 are 12 above it.
        int[] before = {872, 873, 45438, 65535, 65536};
        int[] behind = {65474, 12, 0, 65461, 65536};
        LastsToNext y = Told.of(pumped("2 shut 5"));
        for (int i = 0; i < before.length; i++) {
            y.seed(before[i]);
            T.accepted("50 SHUT below 5", y.waits(), behind[i] % 10 < 5 ? -2 : 2, y);
            T.due("51 SEED behind " + before[i], y.size(10), behind[i]);
        }
        T.accepted("51 the price stays", x.car(4), -2, x);
        LastsToNext none = new LastsToNext();
        T.refused("51 no ROAD", none.seed(0), none, 1);
        T.refused("51 no ROAD", none.seed(-1), none, 1);
        T.due("51 no ROAD", none.size(10), 0);
    }

    /** 52: "true; false: 6": 12 are kept; what is refused, and what is no ACT, is none. */
    private static void undo() {
        LastsToNext x = Told.of(pumped("2 shut 0"));
        for (int acts = 1; acts <= 14; acts++) {
            x.waits();
            T.due("52 kept", x.size(11), Math.min(12, acts));
        }
        for (int left = 11; left >= 0; left--) {
            x.station(-1);
            T.due("52", x.undo(), true);
            T.due("57 of undo", x.trouble(), 0);
            T.due("52 kept", x.size(11), left);
            T.accepted("52 minutes", x.car(3), 20 + 10 * left, x);
        }
        for (int i = 0; i < 2; i++) {
            T.refused("52 no more", x.undo(), x, 6);
            T.accepted("52 all stays", x.car(3), 20, x);
        }
        // Behind an UNDO other ACTS are kept.
        x.waits();
        x.fill(1);
        T.due("52", x.undo(), true);
        x.fill(2);
        T.due("52", x.size(11), 2);
        T.due("52", x.undo(), true);
        T.due("52", x.undo(), true);
        T.refused("52 no more", x.undo(), x, 6);
        T.accepted("52", x.car(3), 20, x);
        // None of these is an ACT.
        x.fill(0);
        x.fill(6);
        x.drive(0);
        x.drive(1);
        x.drive(7);
        x.seed(4);
        x.plan(0, 1);
        x.image();
        x.road(1);
        x.run(0, 0);
        T.due("52 no ACTS", x.size(11), 0);
        T.refused("52 no ACTS", x.undo(), x, 6);
        LastsToNext none = new LastsToNext();
        T.refused("52 no ROAD", none.undo(), none, 6);
    }

    /** 52: all, SEED too, is as ahead of the latest. */
    private static void undoAll() {
        LastsToNext x = Told.of("car tank 9 has 5 stop 10,20 stuck 9;place a;place b;road a b takes 1 minutes 3;pump a price 1 shut 5;"
                + "pump b price 2 or 3 shut 0;way a,b");
        car(x, 0, 5, 0, 0, -2);
        x.seed(1);
        T.accepted("50", x.waits(), 1, x);
        x.seed(3);
        T.accepted("48", x.fill(4), 14, x);
        x.seed(1);
        T.accepted("49", x.drive(1), 8, x);
        x.seed(77);
        car(x, 1, 8, 14, 33, 3);
        T.due("52", x.undo(), true);
        car(x, 0, 9, 14, 30, 1);
        T.due("52 SEED too", x.size(10), 1);
        T.due("52", x.undo(), true);
        car(x, 0, 5, 0, 10, 1);
        T.due("52 SEED too", x.size(10), 3);
        T.due("52", x.undo(), true);
        car(x, 0, 5, 0, 0, -2);
        T.due("52 SEED too", x.size(10), 1);
        // The same ACTS come to the same.
        T.accepted("50", x.waits(), 1, x);
        T.due("50", x.size(10), 149);
    }

    /** 53: up to 3; "its number. NONE: 1 (no ROAD); 3". */
    private static void image() {
        LastsToNext x = Told.of(pumped("2 shut 0"));
        for (int number = 0; number < 3; number++) {
            x.station(-1);
            T.accepted("53", x.image(), number, x);
            T.due("56 IMAGES", x.size(12), number + 1);
            x.waits();
        }
        for (int i = 0; i < 2; i++) {
            T.refused("53 no room", x.image(), x, 3);
            T.due("56 IMAGES", x.size(12), 3);
        }
        // Going back, or undoing, makes no room.
        x.undo();
        T.refused("53 no room", x.image(), x, 3);
        x.back(1);
        T.refused("53 no room", x.image(), x, 3);
        T.accepted("53 the refused one changed none", x.car(3), 10, x);
        T.due("54", x.back(2), true);
        T.accepted("53 the refused one changed none", x.car(3), 20, x);
        LastsToNext none = new LastsToNext();
        T.refused("53 no ROAD", none.image(), none, 1);
        T.due("53 no ROAD", none.size(12), 0);
    }

    /** 54: "(all IMAGES stay; the PLAN as it is): true; false: 1"; nothing can be undone then. */
    private static void back() {
        LastsToNext x = Told.of("car tank 9 has 5 stop 10,20 stuck 9;place a;place b;road a b takes 1 minutes 3;pump a price 1 shut 5;"
                + "pump b price 2 or 3 shut 0;way a,b");
        for (int number : new int[] {0, 1, -1, HIGH, LOW}) {
            T.refused("54 no such yet", x.back(number), x, 1);
        }
        x.image();
        x.seed(1);
        x.waits();
        x.fill(2);
        x.image();
        x.seed(9);
        x.drive(1);
        x.plan(0, 7);
        T.refused("54 no such yet", x.back(2), x, 1);
        T.due("54 refused, all stays", x.size(11), 3);
        x.station(-1);
        T.due("54", x.back(0), true);
        T.due("57 of back", x.trouble(), 0);
        car(x, 0, 5, 0, 0, -2);
        T.due("54 SEED too", x.size(10), FIRST);
        T.due("54 nothing can be undone", x.size(11), 0);
        T.refused("54 nothing can be undone", x.undo(), x, 6);
        T.accepted("54 the PLAN as it is", x.judge(), 0, x);
        x.waits();
        T.due("54 all IMAGES stay", x.back(1), true);
        car(x, 0, 7, 12, 30, 1);
        T.due("54 SEED too", x.size(10), 149);
        T.due("54 all IMAGES stay", x.size(12), 2);
        T.due("54 again", x.back(1), true);
        // What comes behind changes no IMAGE, and can be undone.
        x.fill(1);
        T.due("54", x.undo(), true);
        T.refused("52", x.undo(), x, 6);
        x.drive(1);
        x.back(1);
        car(x, 0, 7, 12, 30, 1);
        for (int number : new int[] {2, 3, -1, HIGH, LOW}) {
            T.refused("54 no such", x.back(number), x, 1);
        }
        LastsToNext none = new LastsToNext();
        T.refused("54 no ROAD", none.back(0), none, 1);
    }

    /** 55: the i-th, by numbers, of those to which it can drive; "NoSuchElementException if there is none such". */
    private static void led() {
        LastsToNext x = Told.of("car tank 9 has 3 stop 0,0 stuck 9;place e;place d;place c;place b;place a;road a b takes 4 minutes 0;road a c takes 3 minutes 0;"
                + "road e a takes 2 minutes 0;road b c takes 1 minutes 0;pump a price 1 shut 0;way a,e");
        // a is number 4; 3 pints last to e (0) by 2 and just to c (2) by 3, not to b (3) by 4; d (1) has no road.
        led(x, 0, 2);
        x.fill(1);
        led(x, 0, 2, 3);
        x.drive(3);
        led(x);
        x.undo();
        x.drive(2);
        led(x, 3);
        x.undo();
        x.undo();
        led(x, 0, 2);
        led(new LastsToNext());
        // To all of eight others.
        StringBuilder star = new StringBuilder("car tank 9 has 8 stop 0,0 stuck 9;place e");
        for (int i = 1; i < 9; i++) {
            star.append(";place ").append((char) ('k' + i)).append(";road e ").append((char) ('k' + i)).append(" takes ").append(i).append(" minutes 0");
        }
        led(Told.of(star + ";way e,l"), 1, 2, 3, 4, 5, 6, 7, 8);
        led(Told.of(star + ";way l,e"), 0);
        T.due("55 TROUBLE stays", Told.of(Told.ROAD).trouble(), 0);
    }

    private static void led(LastsToNext x, int... places) {
        x.station(-1);
        for (int i = 0; i < places.length; i++) {
            T.due("55 " + i, Told.led(x, i), places[i]);
        }
        for (int i : new int[] {places.length, places.length + 1, -1, HIGH, LOW}) {
            T.due("55 none such", Told.led(x, i), -1);
        }
        T.due("57 led leaves it", x.trouble(), 1);
    }

    /** 56: "NONE for others; 0 for what there isn't". */
    private static void size() {
        LastsToNext none = new LastsToNext();
        for (int what = 0; what < 14; what++) {
            T.due("56 no ROAD " + what, none.size(what), 0);
        }
        LastsToNext x = Told.of("car tank 40 has 39 stop 99,60 stuck 999;place a;place b;place c;road a b takes 1 minutes 3;road b c takes 1 minutes 3;"
                + "pump a price 1 shut 5;way a,b,c,b,a;receipt a 1;receipt a 1;receipt a 1");
        x.waits();
        x.image();
        x.image();
        x.seed(65536);
        x.feed(0, 0, 0, 0, 0);
        x.feed(0, 0, 0, 0, 0);
        int[] sizes = {40, 39, 99, 60, 999, 3, 2, 1, 5, 3, 65536, 1, 2, 40};
        x.station(-1);
        for (int what = 0; what < sizes.length; what++) {
            T.due("56 " + what, x.size(what), sizes[what]);
        }
        for (int what : new int[] {-1, 14, 15, 99, HIGH, LOW}) {
            T.due("56 others", x.size(what), -1);
            T.due("56 others, no ROAD", none.size(what), -1);
        }
        T.due("57 size leaves it", x.trouble(), 1);
        LastsToNext y = Told.of(Told.row("tank 5 has 0 stop 0,0 stuck 0", "", 1, ""));
        int[] least = {5, 0, 0, 0, 0, 2, 1, 0, 2, 0, 0, 0, 0, 0};
        for (int what = 0; what < least.length; what++) {
            T.due("56 least " + what, y.size(what), least[what]);
        }
    }

    /** 57: of the latest call that may be refused: 0 it wasn't; else its number. */
    private static void trouble() {
        LastsToNext x = new LastsToNext();
        T.due("57 none yet", x.trouble(), 0);
        x.undo();
        T.due("57 there is none", x.trouble(), 6);
        x.back(0);
        T.due("57 none such", x.trouble(), 1);
        x.road(1);
        T.due("57 a number", x.trouble(), 2);
        x.feed(0, 0, 0, 0, 0);
        T.due("57 feed tells no number", x.trouble(), 2);
        x.road(20);
        T.due("57 a FAULT", x.trouble(), 4);
        for (int i = 0; i < 40; i++) {
            x.feed(0x20202020, 0x20202020, 0x20202020, 0x20202020, 0x20202020);
        }
        T.due("57 a full TAPE tells no number", x.feed(0, 0, 0, 0, 0), -1);
        T.due("57 a full TAPE tells no number", x.trouble(), 4);
        x.road(800);
        Told.tell(x, Told.ROAD);
        T.due("57 it wasn't", x.trouble(), 0);
        x.cost();
        T.due("57 not so", x.trouble(), 5);
        x.image();
        x.image();
        x.image();
        T.due("57 it wasn't", x.trouble(), 0);
        x.image();
        T.due("57 no room", x.trouble(), 3);
        // These tell none, so it stays.
        x.fault();
        x.where();
        x.trouble();
        x.size(-1);
        Told.led(x, -1);
        Told.led(x, 0);
        T.due("57 stays", x.trouble(), 3);
        // An answer of -2 isn't refused.
        T.accepted("57", x.takes(0, 3, false), -2, x);
        x.image();
        T.accepted("57", x.within(0), -2, x);
        x.image();
        T.accepted("57", x.stuckAt(0), -2, x);
    }

    /** An object stands 512 calls: pence and minutes go on. */
    private static void manyCalls() {
        LastsToNext x = Told.of("car tank 1 has 1 stop 99,60 stuck 9;place a;place b;road a b takes 1 minutes 99;pump a price 99 shut 0;"
                + "pump b price 99 shut 0;way a,b");
        int pence = 0;
        for (int i = 0; i < 240; i++) {
            T.due("49", x.drive((i + 1) % 2), 0);
            pence += 198;
            T.due("48", x.fill(1), pence);
        }
        car(x, 0, 1, 240 * 198, 240 * 159, 99);
    }
}
