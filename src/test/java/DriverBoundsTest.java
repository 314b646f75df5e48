/** Promises 23 to 31: every bound and every refusal that is named there, on both of its sides. */
public final class DriverBoundsTest {
    private static final Told T = new Told("bounds of drivers");
    private static final int LOW = Integer.MIN_VALUE;
    private static final int HIGH = Integer.MAX_VALUE;
    private static final int FULL = 0;
    private static final int CHEAP = 1;
    private static final int LATE = 2;
    private static final int HALF = 3;

    /** LEGS of 4, 6, 10 and 1 pints, a tank of 10; station 3's FIRST price is the greater one. */
    private static final String FIVE = Told.row("tank 10 has 0 stop 2,0 stuck 50", "5 shut 0", 4, "5 shut 0", 6, "4 shut 0", 10, "9 or 3 shut 0", 1, "1 shut 0");

    public static void main(String[] args) {
        full();
        cheap();
        late();
        half();
        wrongBuying();
        wrongRules();
        byRule();
        odds();
        mean();
        bestRule();
        bestMean();
        buy();
        sure();
        largest();
        T.end();
    }

    /** What a RULE buys at a station, by pints 0, 1, .. up to the tank. */
    private static void buys(LastsToNext x, int rule, int station, boolean dear, int... wanted) {
        T.due("23 all levels", wanted.length, x.size(0) + 1);
        for (int pints = 0; pints < wanted.length; pints++) {
            T.accepted("23 RULE " + rule + " at " + station + " with " + pints, x.buys(rule, station, pints, dear), wanted[pints], x);
        }
    }

    private static void full() {
        LastsToNext x = Told.of(FIVE);
        for (int i = 0; i < 4; i++) {
            buys(x, FULL, i, false, 10, 9, 8, 7, 6, 5, 4, 3, 2, 1, 0);
        }
        buys(x, FULL, 3, true, 10, 9, 8, 7, 6, 5, 4, 3, 2, 1, 0);
        buys(Told.of(Told.row("tank 1 has 0 stop 0,0 stuck 0", "5 shut 9", 1, "")), FULL, 0, false, 1, 0);
    }

    /** CHEAP: lower than the price here, a FIRST price, the next such; or the last station; if a full tank lasts to it. */
    private static void cheap() {
        LastsToNext x = Told.of(FIVE);
        // A like price isn't lower; a full tank just lasts to station 2.
        buys(x, CHEAP, 0, false, 10, 9, 8, 7, 6, 5, 4, 3, 2, 1, 0);
        buys(x, CHEAP, 1, false, 6, 5, 4, 3, 2, 1, 0, 0, 0, 0, 0);
        // A lower second price isn't counted, the last station lies one pint too far: fills up.
        buys(x, CHEAP, 2, false, 10, 9, 8, 7, 6, 5, 4, 3, 2, 1, 0);
        buys(x, CHEAP, 3, false, 1, 0, 0, 0, 0, 0, 0, 0, 0, 0, 0);
        buys(x, CHEAP, 3, true, 1, 0, 0, 0, 0, 0, 0, 0, 0, 0, 0);
        // The next such, not the lowest; by the dear price the one ahead is lower, by the FIRST one like.
        LastsToNext y = Told.of(Told.row("tank 5 has 0 stop 0,0 stuck 0", "5 or 6 shut 0", 2, "5 shut 9", 1, "4 shut 9", 1, "1 shut 0", 5, ""));
        buys(y, CHEAP, 0, false, 3, 2, 1, 0, 0, 0);
        buys(y, CHEAP, 0, true, 2, 1, 0, 0, 0, 0);
        buys(y, CHEAP, 1, false, 1, 0, 0, 0, 0, 0);
        buys(y, CHEAP, 2, false, 1, 0, 0, 0, 0, 0);
        buys(y, CHEAP, 3, false, 5, 4, 3, 2, 1, 0);
        // By the lower second price nothing ahead is lower.
        LastsToNext z = Told.of(Told.row("tank 4 has 0 stop 0,0 stuck 0", "5 or 2 shut 0", 1, "3 shut 0", 2, "1 shut 0"));
        buys(z, CHEAP, 0, false, 1, 0, 0, 0, 0);
        buys(z, CHEAP, 0, true, 3, 2, 1, 0, 0);
        // The last station just a tank away, one more than that; its pump is no use.
        LastsToNext w = Told.of(Told.row("tank 4 has 0 stop 0,0 stuck 0", "1 shut 0", 1, "", 3, ""));
        buys(w, CHEAP, 0, false, 4, 3, 2, 1, 0);
        LastsToNext v = Told.of(Told.row("tank 4 has 0 stop 0,0 stuck 0", "5 shut 0", 2, "", 3, "1 shut 0"));
        buys(v, CHEAP, 0, false, 4, 3, 2, 1, 0);
        // A cheaper pump that a full tank doesn't last to: fills up, too.
        LastsToNext u = Told.of(Told.row("tank 4 has 0 stop 0,0 stuck 0", "5 shut 0", 3, "", 2, "1 shut 0", 1, ""));
        buys(u, CHEAP, 0, false, 4, 3, 2, 1, 0);
    }

    /** LATE: nothing if it lasts to the next pump, or the last station; else what lacks, or fills up, if a tank isn't enough. */
    private static void late() {
        LastsToNext x = Told.of(FIVE);
        buys(x, LATE, 0, false, 4, 3, 2, 1, 0, 0, 0, 0, 0, 0, 0);
        buys(x, LATE, 1, false, 6, 5, 4, 3, 2, 1, 0, 0, 0, 0, 0);
        buys(x, LATE, 2, false, 10, 9, 8, 7, 6, 5, 4, 3, 2, 1, 0);
        buys(x, LATE, 3, false, 1, 0, 0, 0, 0, 0, 0, 0, 0, 0, 0);
        buys(x, LATE, 3, true, 1, 0, 0, 0, 0, 0, 0, 0, 0, 0, 0);
        // Stations without a pump are passed; one pint more than a tank.
        buys(Told.of(Told.row("tank 5 has 0 stop 0,0 stuck 0", "1 shut 0", 2, "", 3, "", 1, "")), LATE, 0, false, 5, 4, 3, 2, 1, 0);
        buys(Told.of(Told.row("tank 6 has 0 stop 0,0 stuck 0", "1 shut 0", 2, "", 3, "", 1, "")), LATE, 0, false, 6, 5, 4, 3, 2, 1, 0);
        buys(Told.of(Told.row("tank 6 has 0 stop 0,0 stuck 0", "1 shut 0", 1, "", 1, "9 shut 9", 1, "")), LATE, 0, false, 2, 1, 0, 0, 0, 0, 0);
    }

    /** HALF: less than half a tank. */
    private static void half() {
        buys(Told.of(FIVE), HALF, 0, false, 10, 9, 8, 7, 6, 0, 0, 0, 0, 0, 0);
        buys(Told.of(FIVE), HALF, 3, true, 10, 9, 8, 7, 6, 0, 0, 0, 0, 0, 0);
        buys(Told.of(Told.row("tank 9 has 0 stop 0,0 stuck 0", "5 shut 9", 1, "")), HALF, 0, false, 9, 8, 7, 6, 5, 0, 0, 0, 0, 0);
        buys(Told.of(Told.row("tank 2 has 0 stop 0,0 stuck 0", "5 shut 9", 1, "")), HALF, 0, false, 2, 0, 0);
        buys(Told.of(Told.row("tank 1 has 0 stop 0,0 stuck 0", "5 shut 9", 1, "")), HALF, 0, false, 1, 0);
    }

    /** 23, 30: "NONE: 1 (station: the last one, too; RULE); 2 (pints); 6 (no pump, no second price)". */
    private static void wrongBuying() {
        LastsToNext x = Told.of(Told.row("tank 5 has 0 stop 0,0 stuck 0", "5 shut 0", 1, "", 1, "3 or 2 shut 0", 1, "1 or 2 shut 0"));
        for (int i : new int[] {-1, 3, 4, HIGH, LOW}) {
            for (int pints : new int[] {0, 5, -1, 6}) {
                T.refused("23 station", x.buys(FULL, i, pints, false), x, 1);
                T.refused("30 station", x.buy(i, pints, true), x, 1);
            }
        }
        for (int rule : new int[] {-1, 4, 5, HIGH, LOW}) {
            T.refused("23 RULE", x.buys(rule, 0, 0, false), x, 1);
            T.refused("23 RULE ahead of pints", x.buys(rule, 0, 6, false), x, 1);
            T.refused("23 RULE ahead of the pump", x.buys(rule, 1, 0, false), x, 1);
        }
        for (int pints : new int[] {-1, 6, HIGH, LOW}) {
            for (int i = 0; i < 3; i++) {
                T.refused("23 pints", x.buys(LATE, i, pints, false), x, 2);
                T.refused("23 pints ahead of the pump", x.buys(LATE, i, pints, true), x, 2);
                T.refused("30 pints", x.buy(i, pints, false), x, 2);
                T.refused("30 pints ahead of the pump", x.buy(i, pints, true), x, 2);
            }
        }
        for (int rule = 0; rule < 4; rule++) {
            T.refused("23 no second price", x.buys(rule, 0, 5, true), x, 6);
            T.refused("23 no pump", x.buys(rule, 1, 0, false), x, 6);
            T.refused("23 no pump", x.buys(rule, 1, 0, true), x, 6);
            T.accepted("23", x.buys(rule, 2, 5, true), 0, x);
        }
        T.refused("30 no second price", x.buy(0, 5, true), x, 6);
        T.refused("30 no pump", x.buy(1, 0, false), x, 6);
        T.refused("30 no pump", x.buy(1, 5, true), x, 6);
        T.accepted("30", x.buy(2, 5, true), 0, x);
        T.accepted("30", x.buy(0, 5, false), 0, x);
    }

    /** 24 to 27: "NONE: 1 (no ROAD, no such RULE)". */
    private static void wrongRules() {
        LastsToNext x = Told.of(FIVE);
        LastsToNext none = new LastsToNext();
        for (int rule : new int[] {-1, 4, 5, HIGH, LOW}) {
            T.refused("24", x.byRule(rule), x, 1);
            T.refused("25", x.stuckAt(rule), x, 1);
            T.refused("26", x.odds(rule, false), x, 1);
            T.refused("26", x.odds(rule, true), x, 1);
            T.refused("27", x.mean(rule, false), x, 1);
            T.refused("27", x.mean(rule, true), x, 1);
        }
        for (int rule = 0; rule < 4; rule++) {
            T.refused("24", none.byRule(rule), none, 1);
            T.refused("25", none.stuckAt(rule), none, 1);
            T.refused("26", none.odds(rule, true), none, 1);
            T.refused("27", none.mean(rule, true), none, 1);
            x.station(-1);
            T.accepted("25", x.stuckAt(rule), -2, x);
        }
    }

    /** 24, 25: "-2 it is STUCK", "the station from which it doesn't last then; -2 it does". */
    private static void byRule() {
        int[] stuck = {0, 0, 0, 1, 1, -2};
        for (int has = 0; has <= 5; has++) {
            LastsToNext x = Told.of(Told.row("tank 5 has " + has + " stop 3,3 stuck 9", "", 3, "", 2, "1 shut 0"));
            for (int rule = 0; rule < 4; rule++) {
                T.accepted("25 with " + has, x.stuckAt(rule), stuck[has], x);
                T.accepted("24 with " + has, x.byRule(rule), has == 5 ? 0 : -2, x);
            }
        }
        // Open at FIRST prices, whatever is SHUT; a stop each time any are bought.
        LastsToNext y = Told.of(FIVE.replace("shut 0", "shut 9"));
        // FULL 10 at 5; 4 at 5; 6 at 4 (left with 4); 10 at 9: four stops. CHEAP 10 at 5, none at 1, 10 at 4, 1 at 9: three.
        T.accepted("24 FULL", y.byRule(FULL), 50 + 20 + 24 + 90 + 4 * 2, y);
        T.accepted("24 CHEAP", y.byRule(CHEAP), 50 + 40 + 9 + 3 * 2, y);
        T.accepted("24 LATE", y.byRule(LATE), 20 + 30 + 40 + 9 + 4 * 2, y);
        // HALF 10 at 0; 6 is no less than half; none at 2: 10 there; none at 3: 10 there.
        T.accepted("24 HALF", y.byRule(HALF), 50 + 40 + 90 + 3 * 2, y);
        // HALF has just half a tank and is STUCK by it.
        LastsToNext z = Told.of(Told.row("tank 10 has 5 stop 0,0 stuck 9", "1 shut 0", 6, ""));
        T.accepted("25 HALF", z.stuckAt(HALF), 0, z);
        T.accepted("24 HALF", z.byRule(HALF), -2, z);
        T.accepted("25 FULL", z.stuckAt(FULL), -2, z);
        T.accepted("24 FULL", z.byRule(FULL), 5, z);
        T.accepted("24 LATE", z.byRule(LATE), 1, z);
    }

    private static void fraction(String call, long upper, long lower, long wantUpper, long wantLower) {
        T.due(call + ", upper", upper, wantUpper);
        T.due(call + ", lower", lower, wantLower);
    }

    private static void odds(LastsToNext x, int rule, long upper, long lower) {
        x.station(-1);
        T.accepted("26 ODDS", x.odds(rule, false), upper, x);
        x.station(-1);
        T.accepted("26 ODDS", x.odds(rule, true), lower, x);
    }

    private static void mean(LastsToNext x, int rule, long upper, long lower) {
        x.station(-1);
        T.accepted("27 MEAN", x.mean(rule, false), upper, x);
        x.station(-1);
        T.accepted("27 MEAN", x.mean(rule, true), lower, x);
    }

    /** 26: "in lowest terms (0 by 1)"; SHUT also at station 0, each time by itself; the last station's pump is no use. */
    private static void odds() {
        long[][] open = {{1, 1}, {9, 10}, {4, 5}, {7, 10}, {3, 5}, {1, 2}, {2, 5}, {3, 10}, {1, 5}, {1, 10}};
        for (int shut = 0; shut < 10; shut++) {
            LastsToNext x = Told.of(Told.row("tank 5 has 0 stop 0,0 stuck 9", "1 or 2 shut " + shut, 5, "7 shut 9"));
            for (int rule = 0; rule < 4; rule++) {
                odds(x, rule, open[shut][0], open[shut][1]);
            }
            fraction("31 SURE", x.sure(false), x.sure(true), open[shut][0], open[shut][1]);
        }
        LastsToNext x = Told.of(Told.row("tank 5 has 4 stop 0,0 stuck 9", "", 5, "7 shut 0"));
        LastsToNext y = Told.of(Told.row("tank 5 has 5 stop 0,0 stuck 9", "1 shut 9", 5, "7 shut 9"));
        for (int rule = 0; rule < 4; rule++) {
            odds(x, rule, 0, 1);
            odds(y, rule, 1, 1);
        }
        // One PLACE twice: each time by itself.
        String twice = "car tank 2 has # stop 0,0 stuck 9;place a;place b;road a b takes 1 minutes 0;pump a price 1 shut 5;way a,b,a,b";
        odds(Told.of(twice.replace("#", "0")), FULL, 1, 4);
        odds(Told.of(twice.replace("#", "2")), FULL, 1, 2);
        odds(Told.of(twice.replace("#", "0").replace("shut 5", "shut 2")), FULL, 16, 25);
        // HALF with half a tank doesn't fill up at an open pump.
        LastsToNext z = Told.of(Told.row("tank 10 has 5 stop 0,0 stuck 9", "1 shut 0", 6, ""));
        odds(z, HALF, 0, 1);
        odds(z, FULL, 1, 1);
    }

    /** 27: "in lowest terms (0 by 1)": pence, stops, and STUCK, which is the end. */
    private static void mean() {
        LastsToNext x = Told.of(Told.row("tank 5 has 0 stop 3,0 stuck 100", "2 or 4 shut 5", 5, ""));
        LastsToNext y = Told.of(Told.row("tank 5 has 0 stop 3,0 stuck 100", "2 or 4 shut 6", 5, ""));
        // STUCK behind a station where it has paid; nothing is paid behind that.
        LastsToNext z = Told.of(Told.row("tank 5 has 0 stop 3,0 stuck 100", "2 shut 0", 5, "", 1, "9 shut 0", 1, ""));
        LastsToNext w = Told.of(Told.row("tank 5 has 5 stop 3,0 stuck 100", "2 shut 5", 5, "9 shut 0"));
        LastsToNext v = Told.of(Told.row("tank 5 has 0 stop 3,0 stuck 0", "", 5, "9 shut 0"));
        for (int rule = 0; rule < 4; rule++) {
            mean(x, rule, 59, 1);
            mean(y, rule, 336, 5);
            mean(z, rule, 113, 1);
            odds(z, rule, 0, 1);
            mean(w, rule, 0, 1);
            mean(v, rule, 0, 1);
            odds(v, rule, 0, 1);
        }
        // Each price half the time: (3 + 4) / 2 pence for one pint.
        LastsToNext u = Told.of(Told.row("tank 1 has 0 stop 0,0 stuck 9", "3 or 4 shut 0", 1, ""));
        mean(u, FULL, 7, 2);
        LastsToNext t = Told.of(Told.row("tank 1 has 0 stop 0,0 stuck 999", "1 or 2 shut 9", 1, ""));
        mean(t, FULL, (18 * 999 + 3) / 5, 20 / 5);
    }

    /** 28: the RULE of least MEAN, the first such. */
    private static void bestRule() {
        LastsToNext all = Told.of(Told.row("tank 5 has 5 stop 3,0 stuck 9", "1 shut 0", 5, ""));
        T.accepted("28 all like", all.bestRule(), FULL, all);
        LastsToNext three = Told.of(Told.row("tank 10 has 5 stop 3,0 stuck 9", "1 shut 0", 5, ""));
        T.accepted("28 three like", three.bestRule(), CHEAP, three);
        // The second price ahead is lower on the mean, but CHEAP goes by FIRST ones.
        LastsToNext late = Told.of(Told.row("tank 6 has 3 stop 0,0 stuck 9", "2 shut 0", 3, "2 or 1 shut 0", 3, ""));
        mean(late, FULL, 2 * 6 + 3 * 3, 2);
        mean(late, CHEAP, 6, 1);
        mean(late, LATE, 9, 2);
        mean(late, HALF, 9, 1);
        T.accepted("28", late.bestRule(), LATE, late);
        // FULL stops twice, CHEAP and LATE go for a pump that is SHUT nine times of ten.
        LastsToNext half = Told.of(Told.row("tank 5 has 3 stop 10,0 stuck 999", "2 shut 0", 1, "2 shut 0", 1, "1 shut 9", 4, ""));
        mean(half, FULL, 271, 10);
        mean(half, HALF, 16, 1);
        T.accepted("28", half.bestRule(), HALF, half);
        // BEST MEAN is less than any RULE's, but it is no RULE.
        LastsToNext none = Told.of(Told.row("tank 5 has 0 stop 3,0 stuck 100", "2 shut 0", 5, "", 1, "9 shut 0", 1, ""));
        T.accepted("29", none.bestMean(false), 100, none);
        mean(none, FULL, 113, 1);
        T.accepted("28", none.bestRule(), FULL, none);
        LastsToNext blank = new LastsToNext();
        T.refused("28 no ROAD", blank.bestRule(), blank, 1);
        // The least MEAN may be that of STUCK at once.
        LastsToNext stuck = Told.of(Told.row("tank 10 has 5 stop 3,0 stuck 0", "1 shut 0", 6, ""));
        T.accepted("28", stuck.bestRule(), HALF, stuck);
    }

    /** 29: "likewise. -1: 1 (no ROAD)". */
    private static void bestMean() {
        LastsToNext x = Told.of(Told.row("tank 5 has 0 stop 3,0 stuck 0", "1 shut 0", 5, ""));
        fraction("29 0 by 1", x.bestMean(false), x.bestMean(true), 0, 1);
        LastsToNext y = Told.of(Told.row("tank 5 has 0 stop 3,0 stuck 100", "2 or 4 shut 6", 5, ""));
        fraction("29", y.bestMean(false), y.bestMean(true), 336, 5);
        LastsToNext z = Told.of(Told.row("tank 5 has 0 stop 3,0 stuck 100", "2 shut 0", 5, "", 1, "9 shut 0", 1, ""));
        fraction("29 STUCK at once", z.bestMean(false), z.bestMean(true), 100, 1);
        // At 2 pence it goes, 13; at 4 pence it is STUCK for 20 rather than 23.
        LastsToNext w = Told.of(Told.row("tank 5 has 0 stop 3,0 stuck 20", "2 or 4 shut 0", 5, ""));
        fraction("29 by what one sees", w.bestMean(false), w.bestMean(true), 33, 2);
        w.station(-1);
        T.accepted("29", w.bestMean(false), 33, w);
        LastsToNext none = new LastsToNext();
        T.refused("29", none.bestMean(false), none, 1);
        T.refused("31", none.sure(false), none, 1);
    }

    /** 30: BUY, the least such. */
    private static void buy() {
        for (int stuck = 9; stuck <= 11; stuck++) {
            LastsToNext x = Told.of(Told.row("tank 5 has 0 stop 0,0 stuck " + stuck, "2 or 3 shut 0", 5, ""));
            T.accepted("30 STUCK costs " + stuck, x.buy(0, 0, false), stuck > 10 ? 5 : 0, x);
            T.accepted("30", x.buy(0, 1, false), 4, x);
            T.accepted("30", x.buy(0, 5, false), 0, x);
            T.accepted("30 dear", x.buy(0, 0, true), 0, x);
            T.accepted("30 dear", x.buy(0, 1, true), 0, x);
            T.accepted("30 dear", x.buy(0, 2, true), stuck > 9 ? 3 : 0, x);
        }
        // The second pint here for 4, or there: 2 or 8, 2 or 6, 2 or 4 pence.
        int[] there = {8, 6, 4};
        int[] here = {2, 1, 1};
        for (int i = 0; i < there.length; i++) {
            LastsToNext x = Told.of(Told.row("tank 2 has 0 stop 0,0 stuck 99", "4 shut 0", 1, "2 or " + there[i] + " shut 0", 1, ""));
            T.accepted("30 or " + there[i], x.buy(0, 0, false), here[i], x);
            T.accepted("30 or " + there[i], x.buy(0, 1, false), here[i] - 1, x);
            T.accepted("30 or " + there[i], x.buy(1, 0, true), 1, x);
        }
        // A stop that costs as much as STUCK saves.
        LastsToNext y = Told.of(Told.row("tank 2 has 1 stop 5,0 stuck 6", "1 shut 0", 2, ""));
        T.accepted("30 like: nothing", y.buy(0, 1, false), 0, y);
        LastsToNext z = Told.of(Told.row("tank 2 has 1 stop 5,0 stuck 7", "1 shut 0", 2, ""));
        T.accepted("30", z.buy(0, 1, false), 1, z);
        // No PLAN gets there: nothing is worth buying.
        LastsToNext w = Told.of(Told.row("tank 2 has 1 stop 0,0 stuck 999", "1 shut 0", 3, ""));
        T.accepted("30 it can't be", w.buy(0, 0, false), 0, w);
    }

    /** 31: "likewise. -1: 1 (no ROAD)". */
    private static void sure() {
        LastsToNext x = Told.of(Told.row("tank 5 has 4 stop 0,0 stuck 0", "", 5, "7 shut 0"));
        fraction("31 0 by 1", x.sure(false), x.sure(true), 0, 1);
        LastsToNext y = Told.of(Told.row("tank 5 has 5 stop 0,0 stuck 0", "7 shut 9", 5, "7 shut 9"));
        fraction("31 1 by 1", y.sure(false), y.sure(true), 1, 1);
        // Either of two pumps is enough: 1 less 1 / 4.
        LastsToNext z = Told.of(Told.row("tank 5 has 1 stop 99,0 stuck 0", "99 shut 5", 1, "99 shut 5", 4, ""));
        fraction("31", z.sure(false), z.sure(true), 3, 4);
        z.station(-1);
        T.accepted("31", z.sure(true), 4, z);
    }

    /** The largest fractions there are: eight pumps in a row that are SHUT nine times of ten, with two prices. */
    private static void largest() {
        String deep = "car tank 40 has # stop 99,60 stuck 999;place a;place b;road a b takes 40 minutes 0;"
                + "pump a price 99 or 98 shut 9;pump b price 97 or 96 shut 9;way a,b,a,b,a,b,a,b,a";
        LastsToNext x = Told.of(deep.replace("#", "0"));
        odds(x, LATE, 1, 100_000_000L);
        // Each of the eight: open one time of ten, then on the mean 99 and 40 pints; else 999 and the end.
        Ratio mean = Ratio.ZERO;
        for (int i = 7; i >= 0; i--) {
            Ratio pence = Ratio.of(99 * 2 + 40 * (i % 2 == 0 ? 99 + 98 : 97 + 96), 2);
            mean = Ratio.of(9 * 999, 10).plus(pence.plus(mean).times(Ratio.of(1, 10)));
        }
        for (int rule = 0; rule < 4; rule++) {
            mean(x, rule, mean.upper.longValueExact(), mean.lower.longValueExact());
        }
        fraction("29 STUCK at once", x.bestMean(false), x.bestMean(true), 999, 1);
        fraction("31", x.sure(false), x.sure(true), 1, 100_000_000L);
    }
}
