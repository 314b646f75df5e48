/** Promises 6 to 22: every bound and every refusal that is named there, on both of its sides. */
public final class PlanBoundsTest {
    private static final Told T = new Told("bounds of plans");
    private static final int LOW = Integer.MIN_VALUE;
    private static final int HIGH = Integer.MAX_VALUE;

    /** Pumps at 0, 2 and the last one, LEGS of 3, 2, 5 pints and 10, 11, 12 minutes. */
    private static final String FOUR = Told.row("tank 5 has 2 stop 1,7 stuck 9", "6 shut 9", 3, "", 2, "4 shut 9", 5, "1 shut 0");
    /** The longest way: two PLACES in turn, LEGS of a whole tank. */
    private static final String LONG = "car tank 40 has 40 stop 99,60 stuck 999;place a;place b;road a b takes 40 minutes 99;"
            + "pump a price 99 shut 0;pump b price 99 or 1 shut 0;way a,b,a,b,a,b,a,b,a";

    public static void main(String[] args) {
        noRoad();
        takes();
        pump();
        station();
        legs();
        lasts();
        plan();
        judge();
        cost();
        cheapest();
        like();
        fewest();
        within();
        without();
        gap();
        rest();
        need();
        longest();
        T.end();
    }

    /** "NONE: 1 (no ROAD)", ahead of any other number. */
    private static void noRoad() {
        LastsToNext x = new LastsToNext();
        T.refused("6", x.takes(0, 1, false), x, 1);
        T.refused("7", x.pump(0, 0), x, 1);
        T.refused("8", x.station(0), x, 1);
        T.refused("9", x.legs(0, 1), x, 1);
        T.refused("10", x.lasts(0, 0), x, 1);
        T.refused("10", x.lasts(0, -1), x, 1);
        T.refused("11", x.plan(0, 0), x, 1);
        T.refused("11", x.plan(0, -1), x, 1);
        T.refused("12", x.judge(), x, 1);
        T.refused("13", x.cost(), x, 1);
        T.refused("14", x.cheapest(), x, 1);
        T.refused("15", x.how(0), x, 1);
        T.refused("16", x.fewest(), x, 1);
        T.refused("17", x.time(), x, 1);
        T.refused("18", x.without(0), x, 1);
        T.refused("19", x.gap(), x, 1);
        T.refused("20", x.within(0), x, 1);
        T.refused("21", x.rest(), x, 1);
        T.refused("22", x.need(), x, 1);
    }

    /** 6: "-2 without one. NONE: 1 (PLACES, unlike)". */
    private static void takes() {
        LastsToNext x = Told.of("car tank 40 has 0 stop 0,0 stuck 0;place a;place b;place c;road a b takes 40 minutes 99;"
                + "road c b takes 1 minutes 0;way a,b");
        T.accepted("6", x.takes(0, 1, false), 40, x);
        T.accepted("6", x.takes(1, 0, true), 99, x);
        T.accepted("6", x.takes(1, 2, false), 1, x);
        T.accepted("6 no minutes", x.takes(2, 1, true), 0, x);
        LastsToNext y = Told.of("car tank 40 has 0 stop 0,0 stuck 0;place a;place b;place c;road b c takes 2 minutes 3;road c a takes 4 minutes 5;way a,c");
        T.accepted("6", y.takes(2, 1, true), 3, y);
        T.accepted("6", y.takes(1, 2, true), 3, y);
        T.accepted("6", y.takes(0, 2, true), 5, y);
        T.accepted("6", y.takes(2, 0, true), 5, y);
        T.accepted("6 without one", x.takes(0, 2, false), -2, x);
        T.accepted("6 without one", x.takes(2, 0, true), -2, x);
        int[][] wrong = {{0, 0}, {1, 1}, {2, 2}, {-1, 0}, {0, -1}, {3, 0}, {0, 3}, {3, 3}, {-1, -1}, {LOW, 0}, {0, HIGH}, {HIGH, LOW}};
        for (int[] pair : wrong) {
            T.refused("6", x.takes(pair[0], pair[1], false), x, 1);
            T.refused("6", x.takes(pair[0], pair[1], true), x, 1);
            T.refused("34", x.near(pair[0], pair[1]), x, 1);
        }
    }

    /** 7: "1 the second (-2) .. NONE: 1; 6 (it has none)". */
    private static void pump() {
        LastsToNext x = Told.of("car tank 40 has 0 stop 0,0 stuck 0;place a;place b;place c;road a b takes 40 minutes 99;"
                + "pump a price 1 or 99 shut 9;pump b price 99 shut 0;way a,b");
        int[][] told = {{1, 99, 9}, {99, -2, 0}};
        for (int place = 0; place < 2; place++) {
            for (int what = 0; what < 3; what++) {
                T.accepted("7", x.pump(place, what), told[place][what], x);
            }
        }
        for (int what = 0; what < 3; what++) {
            T.refused("7 it has none", x.pump(2, what), x, 6);
            T.refused("7 no PLACE", x.pump(3, what), x, 1);
            T.refused("7 no PLACE", x.pump(-1, what), x, 1);
        }
        for (int what : new int[] {-1, 3, HIGH, LOW}) {
            T.refused("7 no such", x.pump(0, what), x, 1);
            T.refused("7 no such", x.pump(2, what), x, 1);
        }
        T.refused("7", x.pump(HIGH, 0), x, 1);
        T.refused("7", x.pump(LOW, 0), x, 1);
    }

    /** 8: "NONE: 1". */
    private static void station() {
        LastsToNext x = Told.of(LONG);
        for (int i = 0; i < 9; i++) {
            T.accepted("8", x.station(i), i % 2, x);
        }
        LastsToNext y = Told.of(FOUR);
        T.accepted("8", y.station(3), 3, y);
        T.refused("8", y.station(4), y, 1);
        for (int i : new int[] {-1, 9, HIGH, LOW}) {
            T.refused("8", x.station(i), x, 1);
        }
    }

    /** 9: "NONE: 1 (the later one isn't behind it)". */
    private static void legs() {
        LastsToNext x = Told.of(LONG);
        T.accepted("9", x.legs(0, 8), 320, x);
        T.accepted("9", x.legs(0, 1), 40, x);
        T.accepted("9", x.legs(7, 8), 40, x);
        int[][] wrong = {{0, 0}, {1, 0}, {8, 8}, {8, 7}, {8, 9}, {0, 9}, {-1, 0}, {-1, 8}, {LOW, HIGH}, {HIGH, LOW}, {0, HIGH}, {LOW, 1}};
        for (int[] pair : wrong) {
            T.refused("9", x.legs(pair[0], pair[1]), x, 1);
        }
        LastsToNext y = Told.of(FOUR);
        T.accepted("9", y.legs(1, 3), 7, y);
        T.refused("9", y.legs(1, 4), y, 1);
    }

    /** 10: "NONE: 1; 2 (0 up to the tank)"; what is just enough lasts. */
    private static void lasts() {
        LastsToNext x = Told.of(Told.row("tank 10 has 1 stop 0,0 stuck 9", "6 shut 0", 3, "", 4, "", 3, "1 shut 0"));
        int[] reached = {0, 0, 0, 1, 1, 1, 1, 2, 2, 2, 3};
        for (int pints = 0; pints <= 10; pints++) {
            T.accepted("10 with " + pints, x.lasts(0, pints), reached[pints], x);
            T.accepted("10 the last one", x.lasts(3, pints), 3, x);
        }
        T.accepted("10", x.lasts(1, 3), 1, x);
        T.accepted("10", x.lasts(1, 4), 2, x);
        T.accepted("10", x.lasts(1, 7), 3, x);
        T.accepted("10", x.lasts(2, 2), 2, x);
        T.accepted("10", x.lasts(2, 3), 3, x);
        for (int pints : new int[] {-1, 11, HIGH, LOW}) {
            T.refused("10", x.lasts(0, pints), x, 2);
            T.refused("10", x.lasts(3, pints), x, 2);
            T.refused("10", x.lasts(4, pints), x, 1);
        }
        for (int i : new int[] {-1, 4, HIGH, LOW}) {
            T.refused("10", x.lasts(i, 0), x, 1);
        }
    }

    /** 11: "(0 up to the tank) .. from now on (no ACT): true; false: 1 (the last one, too); 2". */
    private static void plan() {
        LastsToNext x = Told.of(FOUR);
        for (int i = 0; i < 3; i++) {
            x.station(-1);
            T.due("11", x.plan(i, 5), true);
            T.due("57 of plan", x.trouble(), 0);
            T.due("11", x.plan(i, 0), true);
        }
        x.plan(0, 3);
        x.plan(2, 5);
        T.accepted("13", x.cost(), 40, x);
        for (int n : new int[] {-1, 6, HIGH, LOW}) {
            T.refused("11", x.plan(0, n), x, 2);
            T.refused("11 the last one, too", x.plan(3, n), x, 1);
            T.refused("11", x.plan(4, n), x, 1);
        }
        for (int i : new int[] {-1, 3, 4, HIGH, LOW}) {
            T.refused("11", x.plan(i, 1), x, 1);
            T.refused("11", x.plan(i, 0), x, 1);
        }
        T.accepted("11 refused, all stays", x.cost(), 40, x);
        // It has n pints, not n more.
        T.due("11", x.plan(0, 3), true);
        T.accepted("11 told again", x.cost(), 40, x);
        T.due("11 no ACT", x.size(11), 0);
        T.refused("52", x.undo(), x, 6);
        // What is undone or gone back to leaves it.
        x.image();
        x.waits();
        x.plan(2, 4);
        x.undo();
        T.accepted("12 UNDO leaves the PLAN", x.judge(), 2, x);
        x.back(0);
        T.accepted("12 so does an IMAGE", x.judge(), 2, x);
    }

    /** 12: where it CAN'T BE, the first such: no pump, more than full, not enough then; "-2 it can. NONE: 1 (no ROAD)". */
    private static void judge() {
        LastsToNext x = Told.of(FOUR);
        T.accepted("12 2 don't last for 3", x.judge(), 0, x);
        x.plan(0, 1);
        T.accepted("12 just enough, then nothing for 2", x.judge(), 1, x);
        x.plan(0, 2);
        T.accepted("12 1 is left for 2", x.judge(), 1, x);
        x.plan(0, 3);
        T.accepted("12 just full, just enough for 2, nothing for 5", x.judge(), 2, x);
        x.plan(0, 4);
        T.accepted("12 more than full", x.judge(), 0, x);
        x.plan(1, 1);
        T.accepted("12 the first such", x.judge(), 0, x);
        x.plan(0, 3);
        T.accepted("12 no pump", x.judge(), 1, x);
        x.plan(1, 0);
        x.plan(2, 4);
        T.accepted("12 4 don't last for 5", x.judge(), 2, x);
        x.plan(2, 5);
        T.accepted("12 it can", x.judge(), -2, x);
        // What would be too much at a later station.
        LastsToNext y = Told.of(Told.row("tank 5 has 5 stop 0,0 stuck 9", "6 shut 9", 2, "4 shut 9", 5, ""));
        y.plan(1, 2);
        T.accepted("12 just full", y.judge(), -2, y);
        y.plan(1, 3);
        T.accepted("12 more than full", y.judge(), 1, y);
        y.plan(1, 1);
        T.accepted("12 not enough", y.judge(), 1, y);
    }

    /** 13: COST, "5 (it can't be)"; 17: minutes, likewise. */
    private static void cost() {
        LastsToNext x = Told.of(FOUR);
        T.refused("13", x.cost(), x, 5);
        T.refused("17", x.time(), x, 5);
        x.plan(0, 3);
        x.plan(2, 5);
        T.accepted("13", x.cost(), 3 * 6 + 1 + 5 * 4 + 1, x);
        T.accepted("17", x.time(), 10 + 11 + 12 + 2 * 7, x);
        x.plan(2, 4);
        T.refused("13", x.cost(), x, 5);
        T.refused("17", x.time(), x, 5);
        // Two stations in one PLACE are two stops.
        LastsToNext y = Told.of("car tank 4 has 0 stop 3,5 stuck 7;place a;place b;road a b takes 2 minutes 9;pump a price 2 shut 0;way a,b,a,b");
        y.plan(0, 4);
        y.plan(2, 2);
        T.accepted("13", y.cost(), 8 + 3 + 4 + 3, y);
        T.accepted("17", y.time(), 3 * 9 + 2 * 5, y);
        // Nothing bought, no stop; a PLAN may buy more than it needs; FIRST prices, whatever is SHUT.
        LastsToNext z = Told.of(Told.row("tank 5 has 3 stop 9,60 stuck 9", "7 or 1 shut 9", 3, ""));
        T.accepted("13 nothing", z.cost(), 0, z);
        T.accepted("17 nothing", z.time(), 10, z);
        z.plan(0, 1);
        T.accepted("13 more than it needs", z.cost(), 7 + 9, z);
        T.accepted("17", z.time(), 70, z);
        z.plan(0, 0);
        T.accepted("13 nothing again", z.cost(), 0, z);
    }

    /** 14: "-2 none can be"; 15: "-2. NONE: 1 (the last one, too)". */
    private static void cheapest() {
        LastsToNext x = Told.of(FOUR);
        T.accepted("14", x.cheapest(), 40, x);
        int[] how = {3, 0, 5};
        for (int i = 0; i < 3; i++) {
            T.accepted("15", x.how(i), how[i], x);
        }
        for (int i : new int[] {-1, 3, 4, HIGH, LOW}) {
            T.refused("15", x.how(i), x, 1);
        }
        // A LEG of just a tank; of one more.
        LastsToNext y = Told.of(Told.row("tank 5 has 0 stop 0,0 stuck 9", "1 shut 9", 5, ""));
        T.accepted("14 just a tank", y.cheapest(), 5, y);
        LastsToNext z = Told.of(Told.row("tank 5 has 5 stop 0,0 stuck 9", "1 shut 0", 2, "1 shut 0", 6, "1 shut 0"));
        T.accepted("14 none can be", z.cheapest(), -2, z);
        T.accepted("15 none can be", z.how(0), -2, z);
        T.accepted("15 none can be", z.how(1), -2, z);
        T.refused("15 the last one, too", z.how(2), z, 1);
        T.refused("15", z.how(-1), z, 1);
        // The last station's pump is no use; a PLAN that is told doesn't matter.
        LastsToNext w = Told.of(Told.row("tank 5 has 2 stop 0,0 stuck 9", "", 3, "1 shut 0"));
        T.accepted("14 no use", w.cheapest(), -2, w);
        x.plan(0, 1);
        T.accepted("14 the PLAN aside", x.cheapest(), 40, x);
        // Prices of 99, the greatest COST of one stop.
        LastsToNext v = Told.of(Told.row("tank 40 has 0 stop 99,0 stuck 9", "99 or 1 shut 9", 40, ""));
        T.accepted("14 dearest", v.cheapest(), 40 * 99 + 99, v);
        T.accepted("15 dearest", v.how(0), 40, v);
    }

    /** 14, 15: of like ones that which buys less at the first station where they differ. */
    private static void like() {
        LastsToNext x = Told.of(Told.row("tank 9 has 1 stop 1,0 stuck 9", "3 shut 0", 1, "3 shut 0", 1, ""));
        T.accepted("14", x.cheapest(), 4, x);
        T.accepted("15 nothing at first", x.how(0), 0, x);
        T.accepted("15", x.how(1), 1, x);
        // Two pints and a stop, or a pint and a stop twice at half the price.
        LastsToNext y = Told.of(Told.row("tank 9 has 0 stop 2,0 stuck 9", "4 shut 0", 1, "2 shut 0", 1, ""));
        T.accepted("14", y.cheapest(), 10, y);
        T.accepted("15 less at first", y.how(0), 1, y);
        T.accepted("15", y.how(1), 1, y);
        T.accepted("20", y.within(1), 10, y);
        T.accepted("16", y.fewest(), 1, y);
        // They differ only behind the first station.
        LastsToNext z = Told.of(Told.row("tank 9 has 0 stop 0,0 stuck 9", "5 shut 0", 1, "3 shut 0", 1, "3 shut 0", 1, ""));
        T.accepted("14", z.cheapest(), 11, z);
        for (int i = 0; i < 3; i++) {
            T.accepted("15", z.how(i), 1, z);
        }
        T.accepted("21", z.rest(), 0, z);
    }

    /** 16: "FEWEST; -2". */
    private static void fewest() {
        String eight = "car tank 1 has # stop 2,0 stuck 9;place a;place b;road a b takes 1 minutes 0;pump a price 3 shut 9;pump b price 5 shut 9;"
                + "way a,b,a,b,a,b,a,b,a";
        LastsToNext x = Told.of(eight.replace("#", "0"));
        T.accepted("16 at each station", x.fewest(), 8, x);
        T.accepted("14", x.cheapest(), 4 * 3 + 4 * 5 + 8 * 2, x);
        T.accepted("20", x.within(9), 48, x);
        T.accepted("20", x.within(8), 48, x);
        T.accepted("20 one stop too few", x.within(7), -2, x);
        LastsToNext y = Told.of(eight.replace("#", "1"));
        T.accepted("16", y.fewest(), 7, y);
        T.accepted("20", y.within(7), 4 * 5 + 3 * 3 + 7 * 2, y);
        T.accepted("20 one stop too few", y.within(6), -2, y);
        LastsToNext z = Told.of(Told.row("tank 5 has 5 stop 9,0 stuck 9", "1 shut 0", 5, ""));
        T.accepted("16 none", z.fewest(), 0, z);
        LastsToNext w = Told.of(Told.row("tank 5 has 4 stop 9,0 stuck 9", "1 shut 0", 5, ""));
        T.accepted("16 one", w.fewest(), 1, w);
        LastsToNext v = Told.of(Told.row("tank 5 has 4 stop 9,0 stuck 9", "", 5, "1 shut 0"));
        T.accepted("16 none can be", v.fewest(), -2, v);
    }

    /** 20: "-2. NONE: 1 (no ROAD); 2 (0 .. 9)". */
    private static void within() {
        LastsToNext x = Told.of(Told.row("tank 9 has 0 stop 1,0 stuck 9", "5 shut 0", 2, "1 shut 0", 4, "2 shut 0", 2, ""));
        // 8 pints at 0; 2 there and 6 at 1; three stops don't pay.
        int[] least = {-2, 41, 18, 18, 18, 18, 18, 18, 18, 18};
        for (int k = 0; k <= 9; k++) {
            T.accepted("20 " + k, x.within(k), least[k], x);
        }
        LastsToNext none = new LastsToNext();
        for (int k : new int[] {-1, 10, HIGH, LOW}) {
            T.refused("20", x.within(k), x, 2);
            T.refused("20 no ROAD", none.within(k), none, 1);
        }
        LastsToNext y = Told.of(Told.row("tank 5 has 5 stop 9,0 stuck 9", "1 shut 0", 5, ""));
        T.accepted("20 nothing", y.within(0), 0, y);
        T.accepted("20 nothing", y.within(9), 0, y);
        // What it has is not bought.
        LastsToNext z = Told.of(Told.row("tank 9 has 1 stop 1,0 stuck 9", "5 shut 0", 2, "1 shut 0", 4, ""));
        T.accepted("20 one stop", z.within(1), 5 * 5 + 1, z);
        T.accepted("20 two stops", z.within(2), 5 + 4 + 2, z);
    }

    /** 18: "-2. NONE: 1 (the last one, too); 6 (no pump)"; this station's pump alone. */
    private static void without() {
        LastsToNext x = Told.of(FOUR);
        T.accepted("18", x.without(0), -2, x);
        T.refused("18 no pump", x.without(1), x, 6);
        T.accepted("18", x.without(2), -2, x);
        T.refused("18 the last one, too, with a pump", x.without(3), x, 1);
        for (int i : new int[] {-1, 4, HIGH, LOW}) {
            T.refused("18", x.without(i), x, 1);
        }
        T.accepted("14 as before", x.cheapest(), 40, x);
        LastsToNext y = Told.of("car tank 4 has 2 stop 0,0 stuck 7;place a;place b;road a b takes 2 minutes 9;pump a price 2 shut 0;"
                + "pump b price 5 shut 0;way a,b,a,b");
        T.accepted("14", y.cheapest(), 8, y);
        T.accepted("18 the first of two", y.without(0), 14, y);
        T.accepted("18 not needed", y.without(1), 8, y);
        T.accepted("18 the second of two", y.without(2), 14, y);
        LastsToNext z = Told.of(Told.row("tank 5 has 5 stop 0,0 stuck 9", "1 shut 0", 6, ""));
        T.accepted("18 it can't be with it", z.without(0), -2, z);
    }

    /** 19: the first without which none can be, else the greatest, the first such; "6 (no such pump, or CHEAPEST can't be)". */
    private static void gap() {
        LastsToNext x = Told.of(Told.row("tank 5 has 5 stop 0,0 stuck 9", "9 shut 0", 2, "1 shut 0", 5, "1 shut 0", 5, ""));
        T.accepted("19 the first that is needed", x.gap(), 1, x);
        LastsToNext y = Told.of(Told.row("tank 9 has 2 stop 0,0 stuck 9", "5 shut 0", 1, "1 shut 0", 1, "3 shut 0", 2, ""));
        T.accepted("18", y.without(0), 2, y);
        T.accepted("18", y.without(1), 6, y);
        T.accepted("18", y.without(2), 2, y);
        T.accepted("19 the greatest", y.gap(), 1, y);
        LastsToNext z = Told.of(Told.row("tank 9 has 9 stop 0,0 stuck 9", "", 1, "1 shut 0", 1, "3 shut 0", 2, ""));
        T.accepted("19 like ones: the first with a pump", z.gap(), 1, z);
        LastsToNext w = Told.of(Told.row("tank 9 has 2 stop 0,0 stuck 9", "2 shut 0", 1, "3 shut 0", 1, "2 shut 0", 2, ""));
        T.accepted("19 like ones", w.gap(), 0, w);
        LastsToNext s = Told.of(Told.row("tank 9 has 1 stop 0,0 stuck 9", "", 1, "1 shut 0", 5, "1 shut 0"));
        T.accepted("19 the last but one", s.gap(), 1, s);
        LastsToNext v = Told.of(Told.row("tank 9 has 9 stop 0,0 stuck 9", "", 1, "", 1, "3 shut 0"));
        T.refused("19 the last one aside", v.gap(), v, 6);
        LastsToNext u = Told.of(Told.row("tank 9 has 9 stop 0,0 stuck 9", "", 1, ""));
        T.refused("19 no pump", u.gap(), u, 6);
        LastsToNext t = Told.of(Told.row("tank 5 has 0 stop 0,0 stuck 9", "1 shut 0", 5, "1 shut 0", 6, ""));
        T.refused("19 CHEAPEST can't be", t.gap(), t, 6);
    }

    /** 21: "-2. NONE: 1 (no ROAD)". */
    private static void rest() {
        int[] has = {5, 6, 7, 40};
        for (int pints : has) {
            LastsToNext x = Told.of(Told.row("tank 40 has " + pints + " stop 0,0 stuck 9", "1 shut 0", 5, ""));
            T.accepted("21", x.rest(), pints - 5, x);
        }
        LastsToNext y = Told.of(Told.row("tank 40 has 4 stop 0,0 stuck 9", "1 shut 0", 5, ""));
        T.accepted("21 bought", y.rest(), 0, y);
        LastsToNext z = Told.of(Told.row("tank 40 has 4 stop 0,0 stuck 9", "", 5, "1 shut 0"));
        T.accepted("21 none can be", z.rest(), -2, z);
        LastsToNext w = Told.of(FOUR);
        T.accepted("21", w.rest(), 0, w);
    }

    /** 22: "NEED; -2 none": as many as the tank takes at most, whatever it has. */
    private static void need() {
        LastsToNext x = Told.of(Told.row("tank 5 has 0 stop 0,0 stuck 9", "", 5, ""));
        T.accepted("22 just a tank", x.need(), 5, x);
        LastsToNext y = Told.of(Told.row("tank 5 has 5 stop 0,0 stuck 9", "", 6, ""));
        T.accepted("22 none", y.need(), -2, y);
        LastsToNext z = Told.of(Told.row("tank 5 has 5 stop 0,0 stuck 9", "1 shut 9", 5, ""));
        T.accepted("22 nothing", z.need(), 0, z);
        LastsToNext w = Told.of(Told.row("tank 5 has 5 stop 0,0 stuck 9", "", 2, "1 shut 9", 5, ""));
        T.accepted("22 up to the first pump", w.need(), 2, w);
        LastsToNext v = Told.of(Told.row("tank 5 has 0 stop 0,0 stuck 9", "", 2, "", 2, "1 shut 9", 5, ""));
        T.accepted("22 up to the first pump", v.need(), 4, v);
        LastsToNext u = Told.of(Told.row("tank 5 has 0 stop 0,0 stuck 9", "", 2, "1 shut 9", 6, ""));
        T.accepted("22 none", u.need(), -2, u);
    }

    /** The greatest numbers there are: eight LEGS of 40 pints, each bought at 99 pence but the first. */
    private static void longest() {
        LastsToNext x = Told.of(LONG);
        T.accepted("14", x.cheapest(), 7 * (40 * 99 + 99), x);
        T.accepted("16", x.fewest(), 7, x);
        T.accepted("20", x.within(9), 7 * 4059, x);
        T.accepted("21", x.rest(), 0, x);
        T.accepted("22", x.need(), 0, x);
        T.accepted("15", x.how(0), 0, x);
        T.accepted("19", x.gap(), 1, x);
        for (int i = 1; i < 8; i++) {
            T.accepted("15", x.how(i), 40, x);
            T.accepted("18", x.without(i), -2, x);
            x.plan(i, 40);
        }
        T.accepted("12", x.judge(), -2, x);
        T.accepted("13", x.cost(), 7 * 4059, x);
        T.accepted("17", x.time(), 8 * 99 + 7 * 60, x);
        T.accepted("18", x.without(0), 7 * 4059, x);
    }
}
