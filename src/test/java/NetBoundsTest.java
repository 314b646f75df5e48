/** Promises 32 to 43: every bound and every refusal that is named there, on both of its sides. */
public final class NetBoundsTest {
    private static final Told T = new Told("bounds of nets, deserts, receipts");
    private static final int LOW = Integer.MIN_VALUE;
    private static final int HIGH = Integer.MAX_VALUE;

    /** a to d by b (2 and 2 pints) or c (3 and 3), b to c by 1; e lies apart; a pump at b alone. */
    private static final String NET = "car tank 9 has 6 stop 0,0 stuck 0;place a;place b;place c;place d;place e;road a b takes 2 minutes 0;"
            + "road b d takes 2 minutes 0;road a c takes 3 minutes 0;road c d takes 3 minutes 0;road b c takes 1 minutes 0;"
            + "pump b price 2 or 3 shut 9;way a,b,d";

    public static void main(String[] args) {
        noRoad();
        net();
        soon();
        most();
        near();
        worth();
        far();
        loads();
        depot();
        convoy();
        wrongDesert();
        fits();
        rests();
        fit();
        went();
        needle();
        T.end();
    }

    /** "NONE: 1 (no ROAD)". */
    private static void noRoad() {
        LastsToNext x = new LastsToNext();
        T.refused("32", x.net(false), x, 1);
        T.refused("32", x.net(true), x, 1);
        T.refused("33", x.most(0), x, 1);
        T.refused("34", x.near(0, 1), x, 1);
        T.refused("35", x.worth(), x, 1);
        T.refused("40", x.fits(), x, 1);
        T.refused("41", x.fit(0, 0), x, 1);
        T.refused("42", x.went(false), x, 1);
        T.refused("42", x.went(true), x, 1);
        T.refused("43", x.needle(false), x, 1);
        T.refused("43", x.needle(true), x, 1);
    }

    /** 32: CHEAP: "-2 it can't be"; what is just enough lasts. */
    private static void net() {
        for (int has = 0; has <= 5; has++) {
            LastsToNext x = Told.of(Told.row("tank 5 has " + has + " stop 2,7 stuck 0", "", 5, "1 shut 0"));
            T.accepted("32 with " + has, x.net(false), has == 5 ? 0 : -2, x);
            T.accepted("32 with " + has, x.net(true), has == 5 ? 10 : -2, x);
            LastsToNext y = Told.of(Told.row("tank 5 has " + has + " stop 2,7 stuck 0", "3 or 1 shut 9", 5, "1 shut 0"));
            T.accepted("32 with " + has, y.net(false), has == 5 ? 0 : 3 * (5 - has) + 2, y);
            T.accepted("32 with " + has, y.net(true), has == 5 ? 10 : 17, y);
            LastsToNext z = Told.of(Told.row("tank 5 has " + has + " stop 2,7 stuck 0", "3 shut 0", 6, ""));
            T.accepted("32 one pint more than a tank", z.net(false), -2, z);
            T.accepted("32 one pint more than a tank", z.net(true), -2, z);
        }
        // To and fro: a pump off the way is come to and left by the same road.
        LastsToNext x = Told.of("car tank 4 has 1 stop 2,7 stuck 0;place a;place b;place c;road a b takes 4 minutes 30;road a c takes 1 minutes 3;"
                + "pump c price 5 shut 0;pump a price 9 shut 0;way a,b");
        // 3 pints at a: 27 and a stop; at c no more than 4 less 1 are left back at a: 4 at c and 1 at a.
        T.accepted("32", x.net(false), 29, x);
        T.accepted("32", x.net(true), 37, x);
        LastsToNext y = Told.of("car tank 5 has 1 stop 2,7 stuck 0;place a;place b;place c;road a b takes 4 minutes 30;road a c takes 1 minutes 3;"
                + "pump c price 1 shut 0;pump a price 9 shut 0;way a,b");
        T.accepted("32 by a pump off the way", y.net(false), 7, y);
        T.accepted("32", y.net(true), 37, y);
        // From a PLACE to itself one is there already.
        LastsToNext z = Told.of("car tank 5 has 0 stop 2,7 stuck 0;place a;place b;road a b takes 5 minutes 30;way b,a,b");
        T.accepted("32 there already", z.net(false), 0, z);
        T.accepted("32 there already", z.net(true), 0, z);
        // The greatest numbers: eight roads of a tank, bought at 99 pence.
        Object[] parts = new Object[17];
        for (int i = 0; i < 17; i++) {
            parts[i] = i % 2 == 1 ? 40 : i < 16 ? "99 shut 9" : "";
        }
        LastsToNext w = Told.of(Told.row("tank 40 has 0 stop 99,60 stuck 0", parts));
        T.accepted("32 longest", w.net(false), 8 * (40 * 99 + 99), w);
        T.accepted("32 longest", w.net(true), 10 + 11 + 12 + 13 + 14 + 15 + 16 + 17 + 8 * 60, w);
        T.accepted("35 longest", w.worth(), 0, w);
        T.accepted("34 longest", w.near(0, 8), 320, w);
        T.accepted("34 longest", w.near(8, 0), 320, w);
        T.accepted("33 longest", w.most(8), 0, w);
        T.accepted("33 longest", w.most(7), 40, w);
        // With a full tank, too, one is there already.
        LastsToNext v = Told.of("car tank 5 has 5 stop 2,7 stuck 0;place a;place b;road a b takes 5 minutes 30;way b,a,b");
        T.accepted("32 there already", v.net(false), 0, v);
        T.accepted("32 there already", v.net(true), 0, v);
    }

    /** 32: SOON: roads, and of a stop each time one buys. */
    private static void soon() {
        String text = "car tank 4 has 4 stop 0,# stuck 0;place a;place b;place c;road a b takes 4 minutes 1;road b c takes 4 minutes 1;"
                + "road a c takes 4 minutes 8;pump b price 1 shut 0;way a,b,c";
        int[] minutes = {0, 5, 6, 7, 60};
        int[] due = {2, 7, 8, 8, 8};
        for (int i = 0; i < minutes.length; i++) {
            LastsToNext x = Told.of(text.replace("#", "" + minutes[i]));
            T.accepted("32 a stop of " + minutes[i], x.net(true), due[i], x);
            T.accepted("32 pence aside", x.net(false), 0, x);
        }
        // A road of no minutes.
        LastsToNext y = Told.of("car tank 4 has 4 stop 0,9 stuck 0;place a;place b;road a b takes 4 minutes 0;way a,b");
        T.accepted("32", y.net(true), 0, y);
    }

    /** 33: "-2 it can't come there. NONE: 1". */
    private static void most() {
        LastsToNext x = Told.of("car tank 9 has 3 stop 0,0 stuck 0;place a;place b;place c;place d;place e;road a b takes 3 minutes 0;"
                + "road b c takes 9 minutes 0;road c d takes 1 minutes 0;pump b price 2 shut 9;pump d price 1 shut 0;way a,b");
        // To b with nothing left, filled up there, just to c, and no further; back at a with 6.
        int[] most = {6, 9, 0, -2, -2};
        for (int place = 0; place < 5; place++) {
            T.accepted("33 " + place, x.most(place), most[place], x);
        }
        for (int place : new int[] {-1, 5, HIGH, LOW}) {
            T.refused("33", x.most(place), x, 1);
        }
        // By falling numbers of PLACES, too, and by a pump of the least price.
        LastsToNext w = Told.of("car tank 9 has 3 stop 0,0 stuck 0;place e;place d;place c;place b;place a;road a b takes 3 minutes 0;"
                + "road b c takes 4 minutes 0;road c d takes 1 minutes 0;road d e takes 8 minutes 0;pump b price 1 shut 9;pump d price 1 shut 0;way a,b");
        int[] falling = {1, 9, 8, 9, 6};
        for (int place = 0; place < 5; place++) {
            T.accepted("33 falling " + place, w.most(place), falling[place], w);
            if (place < 4) {
                T.accepted("34 falling " + place, w.near(4, place), new int[] {16, 8, 7, 3}[place], w);
            }
        }
        LastsToNext y = Told.of(Told.row("tank 9 has 2 stop 0,0 stuck 0", "", 3, "1 shut 0"));
        T.accepted("33 where it is", y.most(0), 2, y);
        T.accepted("33 one pint too few", y.most(1), -2, y);
        LastsToNext z = Told.of(Told.row("tank 9 has 0 stop 0,0 stuck 0", "1 shut 9", 9, ""));
        T.accepted("33 a pump where it is", z.most(0), 9, z);
        T.accepted("33 nothing is left", z.most(1), 0, z);
    }

    /** 34: "-2 there is no way. NONE: 1 (PLACES, unlike)"; no tank bounds it. */
    private static void near() {
        LastsToNext x = Told.of(NET.replace("tank 9 has 6", "tank 1 has 0"));
        int[][] near = {{0, 2, 3, 4, -2}, {2, 0, 1, 2, -2}, {3, 1, 0, 3, -2}, {4, 2, 3, 0, -2}, {-2, -2, -2, -2, 0}};
        for (int a = 0; a < 5; a++) {
            for (int b = 0; b < 5; b++) {
                if (a == b) {
                    T.refused("34 like", x.near(a, b), x, 1);
                } else {
                    T.accepted("34 " + a + " " + b, x.near(a, b), near[a][b], x);
                }
            }
            for (int b : new int[] {-1, 5, HIGH, LOW}) {
                T.refused("34", x.near(a, b), x, 1);
                T.refused("34", x.near(b, a), x, 1);
            }
        }
    }

    /** 35: "-2 if either can't be". */
    private static void worth() {
        LastsToNext x = Told.of("car tank 5 has 5 stop 1,0 stuck 9;place a;place b;place c;road a b takes 5 minutes 0;road b c takes 5 minutes 0;"
                + "road a c takes 5 minutes 0;way a,b,c");
        T.accepted("32 the straight road", x.net(false), 0, x);
        T.accepted("14 can't be", x.cheapest(), -2, x);
        T.accepted("35 CHEAPEST can't be", x.worth(), -2, x);
        LastsToNext v = Told.of("car tank 5 has 2 stop 1,0 stuck 9;place a;place b;place c;road a b takes 5 minutes 0;road b c takes 5 minutes 0;"
                + "road a c takes 5 minutes 0;pump a price 4 shut 0;way a,b,c");
        T.accepted("32 the straight road", v.net(false), 13, v);
        T.accepted("35 CHEAPEST can't be", v.worth(), -2, v);
        LastsToNext y = Told.of(Told.row("tank 5 has 4 stop 1,0 stuck 9", "", 5, ""));
        T.accepted("35 neither can be", y.worth(), -2, y);
        LastsToNext z = Told.of(Told.row("tank 5 has 5 stop 1,0 stuck 9", "", 5, ""));
        T.accepted("35 nothing", z.worth(), 0, z);
        // To itself THE NET is nothing, the way costs a pint and a stop.
        LastsToNext w = Told.of("car tank 2 has 1 stop 4,0 stuck 9;place a;place b;road a b takes 1 minutes 0;pump a price 3 shut 0;way a,b,a");
        T.accepted("35", w.worth(), 7, w);
    }

    private static void fraction(String call, long upper, long lower, long wantUpper, long wantLower) {
        T.due(call + ", upper", upper, wantUpper);
        T.due(call + ", lower", lower, wantLower);
    }

    private static LastsToNext tank(int pints) {
        return Told.of(Told.row("tank " + pints + " has 0 stop 0,0 stuck 9", "", 1, ""));
    }

    /** 36: n LOADS (1 .. 12), a fraction in lowest terms. */
    private static void far() {
        for (int pints : new int[] {1, 3, 12, 40}) {
            LastsToNext x = tank(pints);
            Ratio out = Ratio.ZERO;
            Ratio home = Ratio.ZERO;
            for (int n = 1; n <= 12; n++) {
                out = out.plus(Ratio.of(pints, 2L * n - 1));
                home = home.plus(Ratio.of(pints, 2L * n));
                fraction("36 " + n, x.far(n, false, false), x.far(n, false, true), out.upper.longValueExact(), out.lower.longValueExact());
                fraction("36 home " + n, x.far(n, true, false), x.far(n, true, true), home.upper.longValueExact(), home.lower.longValueExact());
            }
        }
        LastsToNext x = tank(1);
        fraction("36 one LOAD", x.far(1, false, false), x.far(1, false, true), 1, 1);
        fraction("36 one LOAD home", x.far(1, true, false), x.far(1, true, true), 1, 2);
        LastsToNext y = tank(40);
        fraction("36 a WHOLE by 1", y.far(1, true, false), y.far(1, true, true), 20, 1);
    }

    /** 37: "The fewest LOADS (0 up to 12) for so many miles; -2 it isn't enough. NONE: 1 (no ROAD); 2 (0 .. 999)". */
    private static void loads() {
        for (int pints : new int[] {1, 7, 15, 40}) {
            LastsToNext x = tank(pints);
            for (int miles = 0; miles <= 100; miles++) {
                T.accepted("37 " + miles, x.loads(miles, false), fewest(pints, miles, 1), x);
                T.accepted("37 home " + miles, x.loads(miles, true), fewest(pints, miles, 2), x);
            }
        }
        LastsToNext x = tank(15);
        // 15 by 1, by 3 and by 5 are 23 together.
        T.accepted("37 just enough", x.loads(15, false), 1, x);
        T.accepted("37 just enough", x.loads(20, false), 2, x);
        T.accepted("37 just enough", x.loads(23, false), 3, x);
        T.accepted("37 a mile more", x.loads(24, false), 4, x);
        T.accepted("37 none", x.loads(0, false), 0, x);
        T.accepted("37 none", x.loads(0, true), 0, x);
        T.accepted("37 one mile", x.loads(1, true), 1, x);
        T.accepted("37 it isn't enough", x.loads(999, false), -2, x);
        T.accepted("37 it isn't enough", x.loads(999, true), -2, x);
        LastsToNext y = tank(40);
        T.accepted("37 a whole tank", y.loads(40, false), 1, y);
        T.accepted("37 half a tank home", y.loads(20, true), 1, y);
        T.accepted("37 more than half a tank home", y.loads(21, true), 2, y);
        for (int miles : new int[] {-1, 1000, HIGH, LOW}) {
            T.refused("37", y.loads(miles, false), y, 2);
            T.refused("37", y.loads(miles, true), y, 2);
        }
    }

    private static int fewest(int pints, int miles, int first) {
        Ratio sum = Ratio.ZERO;
        for (int n = 0; n <= 12; n++) {
            if (sum.compareTo(Ratio.of(miles, 1)) >= 0) {
                return n;
            }
            sum = sum.plus(Ratio.of(pints, 2L * n + first));
        }
        return -2;
    }

    /** 38: "DEPOT k of n LOADS (2 .. 12)"; k 1 up to LOADS less 1; "-1: 1 (no ROAD); 2 (n); 1 (k)". */
    private static void depot() {
        for (int n = 2; n <= 12; n++) {
            LastsToNext x = tank(30);
            Ratio out = Ratio.ZERO;
            Ratio home = Ratio.ZERO;
            for (int k = 1; k < n; k++) {
                out = out.plus(Ratio.of(30, 2L * (n - k) + 1));
                home = home.plus(Ratio.of(30, 2L * (n - k) + 2));
                fraction("38 " + n + " " + k, x.depot(n, false, k, false), x.depot(n, false, k, true), out.upper.longValueExact(), out.lower.longValueExact());
                fraction("38 home " + n + " " + k, x.depot(n, true, k, false), x.depot(n, true, k, true), home.upper.longValueExact(), home.lower.longValueExact());
            }
            for (int k : new int[] {0, n, n + 1, -1, HIGH, LOW}) {
                T.refused("38 no such", x.depot(n, false, k, false), x, 1);
                T.refused("38 no such", x.depot(n, true, k, true), x, 1);
            }
        }
        // 30 by 3; 30 by 4.
        LastsToNext x = tank(30);
        fraction("38", x.depot(2, false, 1, false), x.depot(2, false, 1, true), 10, 1);
        fraction("38", x.depot(2, true, 1, false), x.depot(2, true, 1, true), 15, 2);
        for (int n : new int[] {1, 0, -1, 13, HIGH, LOW}) {
            T.refused("38 n ahead of k", x.depot(n, false, 1, false), x, 2);
            T.refused("38 n ahead of k", x.depot(n, false, 0, true), x, 2);
        }
    }

    /** 39: n cars (1 .. 12). */
    private static void convoy() {
        LastsToNext x = tank(40);
        Ratio sum = Ratio.ZERO;
        for (int n = 1; n <= 12; n++) {
            sum = sum.plus(Ratio.of(40, n));
            fraction("39 " + n, x.convoy(n, false), x.convoy(n, true), sum.upper.longValueExact(), sum.lower.longValueExact());
        }
        fraction("39 one car", x.convoy(1, false), x.convoy(1, true), 40, 1);
        x.station(-1);
        T.accepted("39", x.convoy(12, true), sum.lower.longValueExact(), x);
    }

    private static void wrongDesert() {
        LastsToNext x = tank(40);
        LastsToNext none = new LastsToNext();
        for (int n : new int[] {0, 13, -1, HIGH, LOW}) {
            T.refused("36", x.far(n, false, false), x, 2);
            T.refused("36", x.far(n, true, true), x, 2);
            T.refused("39", x.convoy(n, true), x, 2);
            T.refused("36 no ROAD", none.far(n, true, true), none, 1);
            T.refused("39 no ROAD", none.convoy(n, true), none, 1);
            T.refused("38 no ROAD", none.depot(n, true, 1, true), none, 1);
            T.refused("37 no ROAD", none.loads(n - 1, true), none, 1);
        }
        T.refused("36 no ROAD", none.far(1, true, true), none, 1);
        T.refused("37 no ROAD", none.loads(1, true), none, 1);
        T.refused("38 no ROAD", none.depot(2, true, 1, true), none, 1);
        T.refused("39 no ROAD", none.convoy(1, true), none, 1);
    }

    private static void fitting(String text, int count) {
        LastsToNext x = Told.of(text);
        T.accepted("40 " + text, x.fits(), count, x);
    }

    /** 40: none twice, in their order, never more than full, it lasts all along. */
    private static void fits() {
        int[] byHas = {0, 0, 0, 0, 1, 1, 4, 4, 4, 4};
        for (int has = 0; has <= 9; has++) {
            fitting(NET.replace("has 6", "has " + has), byHas[has]);
        }
        // From a PLACE to itself there is but the row of that PLACE; a receipt there, and one elsewhere.
        String self = Told.row("tank 5 has 4 stop 0,0 stuck 0", "1 shut 0", 1, "1 shut 0").replace("way a,b", "way a,b,a");
        fitting(self, 1);
        fitting(self + ";receipt a 1", 1);
        fitting(self + ";receipt a 2", 0);
        fitting(self + ";receipt b 1", 0);
        // At the first PLACE, at the last one, in their order.
        String two = Told.row("tank 5 has 4 stop 9,9 stuck 0", "1 shut 9", 3, "2 shut 9");
        fitting(two + ";receipt a 1", 1);
        fitting(two + ";receipt a 2", 0);
        fitting(two + ";receipt b 8", 1);
        fitting(two + ";receipt b 10", 0);
        fitting(two + ";receipt a 1;receipt b 6", 1);
        fitting(two + ";receipt a 1;receipt b 8", 0);
        fitting(two + ";receipt b 2;receipt a 1", 0);
        // More than one in one PLACE; up to five.
        fitting(two + ";receipt b 2".repeat(4), 1);
        fitting(two + ";receipt b 2".repeat(5), 0);
        fitting(two.replace("has 4", "has 3") + ";receipt b 2".repeat(5), 1);
        fitting(two + ";receipt a 1;receipt b 2;receipt b 4", 1);
        fitting(two + ";receipt b 2;receipt a 1;receipt b 2", 0);
        // A receipt of a PLACE on no WAY.
        fitting(NET.replace(";way", ";pump e price 1 shut 0;way") + ";receipt e 1", 0);
        // It lasts just by what is bought, or one pint less.
        String three = Told.row("tank 5 has 2 stop 0,0 stuck 0", "3 shut 0", 4, "2 shut 0", 5, "");
        fitting(three + ";receipt a 6;receipt b 10", 1);
        fitting(three + ";receipt a 3;receipt b 10", 0);
        fitting(three + ";receipt a 6;receipt b 8", 0);
        fitting(three + ";receipt a 9;receipt b 8", 1);
        fitting(three + ";receipt a 9;receipt b 10", 0);
        fitting(three, 0);
        // As many pints as a tank has at most, and many more than any has.
        String great = Told.row("tank 40 has 0 stop 0,0 stuck 0", "1 shut 0", 40, "");
        fitting(great + ";receipt a 40", 1);
        fitting(great + ";receipt a 39", 0);
        fitting(great + ";receipt a 41", 0);
        fitting(great + ";receipt a 64", 0);
        fitting(great + ";receipt a 104", 0);
        fitting(great + ";receipt a 999", 0);
    }

    /** 40: without rest; of two prices by either. */
    private static void rests() {
        String text = Told.row("tank 9 has 0 stop 0,0 stuck 0", "4 or 6 shut 0", 3, "");
        int[] pence = {12, 13, 14, 16, 18, 24, 8, 10, 36, 54, 60, 1, 20};
        int[] count = {1, 0, 0, 1, 1, 1, 0, 0, 1, 1, 0, 0, 1};
        for (int i = 0; i < pence.length; i++) {
            fitting(text + ";receipt a " + pence[i], count[i]);
        }
        // Two receipts, each by either price: 12 pence are 3 pints or 2.
        fitting(text.replace("takes 3", "takes 5") + ";receipt a 12;receipt a 12", 1);
        fitting(text.replace("takes 3", "takes 6") + ";receipt a 12;receipt a 12", 1);
        fitting(text.replace("takes 3", "takes 7") + ";receipt a 12;receipt a 12", 0);
        fitting(text.replace("tank 9", "tank 4") + ";receipt a 12;receipt a 12", 1);
        fitting(text.replace("tank 9", "tank 3") + ";receipt a 12;receipt a 12", 0);
    }

    /** 41: "by numbers of PLACES in order. NONE: 1". */
    private static void fit() {
        LastsToNext x = Told.of(NET);
        int[][] rows = {{0, 1, 2, 3}, {0, 1, 3}, {0, 2, 1, 3}, {0, 2, 3}};
        for (int k = 0; k < rows.length; k++) {
            for (int i = 0; i < rows[k].length; i++) {
                T.accepted("41", x.fit(k, i), rows[k][i], x);
            }
            for (int i : new int[] {-1, rows[k].length, 8, 9, HIGH, LOW}) {
                T.refused("41", x.fit(k, i), x, 1);
            }
        }
        for (int k : new int[] {-1, 4, HIGH, LOW}) {
            T.refused("41", x.fit(k, 0), x, 1);
        }
        LastsToNext y = Told.of(NET.replace("has 6", "has 3"));
        T.refused("41 none fits", y.fit(0, 0), y, 1);
        // All nine PLACES on one WAY.
        Object[] parts = new Object[17];
        for (int i = 0; i < 17; i++) {
            parts[i] = i % 2 == 1 ? 1 : "";
        }
        LastsToNext z = Told.of(Told.row("tank 8 has 8 stop 0,0 stuck 0", parts));
        T.accepted("40", z.fits(), 1, z);
        T.accepted("41", z.fit(0, 8), 8, z);
        T.refused("41", z.fit(0, 9), z, 1);
        T.accepted("42", z.went(true), 511, z);
        T.accepted("42", z.went(false), 511, z);
        T.accepted("43", z.needle(false), 8, z);
        T.accepted("43", z.needle(true), 8, z);
    }

    /** 42: COULD, or SURELY "(0 without WAYS that FIT), as bits". */
    private static void went() {
        LastsToNext x = Told.of(NET);
        T.accepted("42 could", x.went(false), 15, x);
        T.accepted("42 surely", x.went(true), 9, x);
        LastsToNext y = Told.of(NET.replace("has 6", "has 5"));
        T.accepted("42 one WAY", y.went(false), 11, y);
        T.accepted("42 one WAY", y.went(true), 11, y);
        LastsToNext z = Told.of(NET.replace("has 6", "has 3"));
        T.accepted("42 none", z.went(false), 0, z);
        T.accepted("42 none", z.went(true), 0, z);
        // By other numbers: from the last PLACE to the first but one, the first one between.
        LastsToNext v = Told.of("car tank 9 has 6 stop 0,0 stuck 0;place a;place b;place c;place d;road d a takes 2 minutes 0;road a b takes 2 minutes 0;"
                + "road d c takes 3 minutes 0;road c b takes 3 minutes 0;way d,a,b");
        T.accepted("40", v.fits(), 2, v);
        T.accepted("42 could", v.went(false), 15, v);
        T.accepted("42 surely", v.went(true), 10, v);
        int[][] rows = {{3, 0, 1}, {3, 2, 1}};
        for (int k = 0; k < 2; k++) {
            for (int i = 0; i < 3; i++) {
                T.accepted("41", v.fit(k, i), rows[k][i], v);
            }
        }
        LastsToNext u = Told.of("car tank 9 has 6 stop 0,0 stuck 0;place a;place b;place c;road c b takes 2 minutes 0;way c,b");
        T.accepted("42 could", u.went(false), 6, u);
        T.accepted("42 surely", u.went(true), 6, u);
        LastsToNext w = Told.of(NET + ";receipt b 4");
        T.accepted("42 by b", w.went(false), 15, w);
        T.accepted("42 by b", w.went(true), 11, w);
    }

    /** 43: "the least, or the most; -2 none": 0 up to the tank, instead of what it has. */
    private static void needle() {
        needle(NET, 4, 9);
        needle(NET.replace("has 6", "has 0"), 4, 9);
        // To b it takes 2 pints, or 4 by c; 8 pence are 4 pints, 10 are 5, 18 are 9 or 6.
        needle(NET + ";receipt b 8", 2, 9);
        needle(NET + ";receipt b 10", 2, 8);
        needle(NET + ";receipt b 18", 2, 7);
        needle(NET + ";receipt b 20", -2, -2);
        needle(NET + ";receipt b 1", -2, -2);
        needle(Told.row("tank 9 has 0 stop 0,0 stuck 0", "", 9, ""), 9, 9);
        needle(Told.row("tank 9 has 9 stop 0,0 stuck 0", "", 10, ""), -2, -2);
        needle(Told.row("tank 40 has 9 stop 0,0 stuck 0", "1 shut 0", 40, "") + ";receipt a 40", 0, 0);
        needle(Told.row("tank 40 has 9 stop 0,0 stuck 0", "1 shut 0", 1, "") + ";receipt a 1", 0, 39);
        needle(Told.row("tank 40 has 9 stop 0,0 stuck 0", "1 shut 0", 40, ""), 40, 40);
    }

    private static void needle(String text, int least, int most) {
        LastsToNext x = Told.of(text);
        T.accepted("43 " + text, x.needle(false), least, x);
        T.accepted("43 " + text, x.needle(true), most, x);
    }
}
