/** Each promise by its number: ordinary inputs, the edges that the document names, wrong inputs. */
public final class PromisesTest {
    private static final Told T = new Told("promises");
    private static final int LOW = Integer.MIN_VALUE;
    private static final int HIGH = Integer.MAX_VALUE;

    public static void main(String[] args) {
        newObject();
        theRoad();
        asTold();
        plans();
        bestPlans();
        gaps();
        drivers();
        chances();
        theNet();
        desert();
        receipts();
        runs();
        journey();
        undoing();
        whatIsTold();
        T.end();
    }

    private static LastsToNext road() {
        return Told.of(Told.ROAD);
    }

    /** 1: no ROAD: every call that wants one is refused by 1. */
    private static void newObject() {
        LastsToNext x = new LastsToNext();
        T.due("1 NONE", LastsToNext.NONE, -1);
        T.due("1 trouble", x.trouble(), 0);
        for (int what = 0; what < 14; what++) {
            T.due("1 size " + what, x.size(what), 0);
        }
        T.due("1 trouble", x.trouble(), 0);
        T.refused("1 takes", x.takes(0, 1, false), x, 1);
        T.refused("1 pump", x.pump(0, 0), x, 1);
        T.refused("1 station", x.station(0), x, 1);
        T.refused("1 legs", x.legs(0, 1), x, 1);
        T.refused("1 lasts", x.lasts(0, 0), x, 1);
        T.refused("1 plan", x.plan(0, 0), x, 1);
        T.refused("1 judge", x.judge(), x, 1);
        T.refused("1 cost", x.cost(), x, 1);
        T.refused("1 cheapest", x.cheapest(), x, 1);
        T.refused("1 how", x.how(0), x, 1);
        T.refused("1 fewest", x.fewest(), x, 1);
        T.refused("1 time", x.time(), x, 1);
        T.refused("1 without", x.without(0), x, 1);
        T.refused("1 gap", x.gap(), x, 1);
        T.refused("1 within", x.within(-1), x, 1);
        T.refused("1 rest", x.rest(), x, 1);
        T.refused("1 need", x.need(), x, 1);
        T.refused("1 buys", x.buys(0, 0, 0, false), x, 1);
        T.refused("1 byRule", x.byRule(0), x, 1);
        T.refused("1 stuckAt", x.stuckAt(0), x, 1);
        T.refused("1 odds", x.odds(0, true), x, 1);
        T.refused("1 mean", x.mean(0, true), x, 1);
        T.refused("1 bestRule", x.bestRule(), x, 1);
        T.refused("1 bestMean", x.bestMean(true), x, 1);
        T.refused("1 buy", x.buy(0, 0, false), x, 1);
        T.refused("1 sure", x.sure(true), x, 1);
        T.refused("1 net", x.net(false), x, 1);
        T.refused("1 most", x.most(0), x, 1);
        T.refused("1 near", x.near(0, 1), x, 1);
        T.refused("1 worth", x.worth(), x, 1);
        T.refused("1 far", x.far(0, false, false), x, 1);
        T.refused("1 loads", x.loads(-1, false), x, 1);
        T.refused("1 depot", x.depot(0, false, 0, false), x, 1);
        T.refused("1 convoy", x.convoy(0, false), x, 1);
        T.refused("1 fits", x.fits(), x, 1);
        T.refused("1 fit", x.fit(0, 0), x, 1);
        T.refused("1 went", x.went(false), x, 1);
        T.refused("1 needle", x.needle(false), x, 1);
        T.refused("1 run", x.run(0, -1), x, 1);
        T.refused("1 through", x.through(0, -1, 0), x, 1);
        T.refused("1 beats", x.beats(0, 0, -1, 0), x, 1);
        T.refused("1 car", x.car(0), x, 1);
        T.refused("1 fill", x.fill(0), x, 1);
        T.refused("1 drive", x.drive(0), x, 1);
        T.refused("1 waits", x.waits(), x, 1);
        T.refused("1 seed", x.seed(-1), x, 1);
        T.refused("1 undo", x.undo(), x, 6);
        T.refused("1 image", x.image(), x, 1);
        T.refused("1 back", x.back(0), x, 1);
        T.due("1 led", Told.led(x, 0), -1);
    }

    /** 2 to 5; more of the text and its FAULTS in FaultsTest. */
    private static void theRoad() {
        LastsToNext x = new LastsToNext();
        T.due("2 feed", x.feed(0x63617220, 0x74616e6b, 0x20392020, 0x20202020, 0x20202020), 20);
        T.refused("3 road", x.road(10), x, 4);
        T.due("4 fault", x.fault(), 1);
        T.due("5 where", x.where(), 10);
        x = road();
        T.due("3 seed", x.size(10), 74);
        // A ROAD told anew: the PLAN, the JOURNEY, what can be undone and IMAGES begin anew.
        x.plan(1, 9);
        x.plan(2, 1);
        T.accepted("3 cost", x.cost(), 56, x);
        x.waits();
        x.image();
        x.seed(9);
        T.due("3 again", Told.tell(x, Told.ROAD), 4);
        T.due("3 seed", x.size(10), 74);
        T.due("3 acts", x.size(11), 0);
        T.due("3 images", x.size(12), 0);
        T.due("3 minutes", x.car(3), 0);
        T.due("3 judge", x.judge(), 1);
        T.refused("3 undo", x.undo(), x, 6);
        T.refused("3 back", x.back(0), x, 1);
        T.refused("3 number", x.road(HIGH), x, 2);
        T.refused("3 number", x.road(LOW), x, 2);
    }

    /** 6 to 10. */
    private static void asTold() {
        LastsToNext x = road();
        T.accepted("6", x.takes(1, 0, false), 3, x);
        T.accepted("6", x.takes(2, 3, true), 15, x);
        T.accepted("6", x.takes(0, 3, true), -2, x);
        T.refused("6", x.takes(0, 4, true), x, 1);
        T.refused("6", x.takes(-1, 0, true), x, 1);
        T.refused("6", x.takes(2, 2, true), x, 1);
        T.refused("6", x.takes(HIGH, LOW, true), x, 1);
        T.accepted("7", x.pump(2, 0), 7, x);
        T.accepted("7", x.pump(2, 1), 3, x);
        T.accepted("7", x.pump(1, 1), -2, x);
        T.accepted("7", x.pump(1, 2), 5, x);
        T.refused("7", x.pump(3, 0), x, 6);
        T.refused("7", x.pump(3, 3), x, 1);
        T.refused("7", x.pump(4, 0), x, 1);
        T.refused("7", x.pump(0, -1), x, 1);
        T.accepted("8", x.station(3), 3, x);
        T.refused("8", x.station(4), x, 1);
        T.refused("8", x.station(-1), x, 1);
        T.accepted("9", x.legs(0, 3), 14, x);
        T.accepted("9", x.legs(2, 3), 5, x);
        T.refused("9", x.legs(2, 2), x, 1);
        T.refused("9", x.legs(0, 4), x, 1);
        T.refused("9", x.legs(-1, 2), x, 1);
        T.accepted("10", x.lasts(0, 2), 0, x);
        T.accepted("10", x.lasts(0, 3), 1, x);
        T.accepted("10", x.lasts(2, 5), 3, x);
        T.accepted("10", x.lasts(3, 0), 3, x);
        T.refused("10", x.lasts(4, 0), x, 1);
        T.refused("10", x.lasts(4, 11), x, 1);
        T.refused("10", x.lasts(0, 11), x, 2);
        T.refused("10", x.lasts(0, -1), x, 2);
    }

    /** 11 to 13, 17. */
    private static void plans() {
        LastsToNext x = road();
        T.accepted("12", x.judge(), 1, x);
        T.refused("13", x.cost(), x, 5);
        T.refused("17", x.time(), x, 5);
        T.due("11", x.plan(0, 6), true);
        T.due("11", x.plan(2, 10), true);
        T.due("12 too full at 2", x.judge(), 2);
        T.due("11", x.plan(1, 3), true);
        T.due("12 too full at 2", x.judge(), 2);
        T.due("11", x.plan(2, 1), true);
        T.accepted("12", x.judge(), -2, x);
        T.accepted("13", x.cost(), 6 * 9 + 3 * 5 + 7 + 3 * 2, x);
        T.accepted("17", x.time(), 45 + 15, x);
        T.refused("11", x.plan(3, 1), x, 1);
        T.refused("11", x.plan(-1, 1), x, 1);
        T.refused("11", x.plan(0, -1), x, 2);
        T.refused("11", x.plan(0, 11), x, 2);
        T.accepted("13 as it was", x.cost(), 82, x);
        T.refused("11", x.plan(0, 99), x, 2);
        T.due("11", x.plan(0, 6), true);
        T.due("57 of plan", x.trouble(), 0);
        // The PLAN is no ACT.
        T.due("11 no act", x.size(11), 0);
        LastsToNext y = Told.of("car tank 5 has 5 stop 1,1 stuck 7;place a;place b;road a b takes 2 minutes 3;way a,b");
        T.accepted("13 nothing bought", y.cost(), 0, y);
        T.accepted("17", y.time(), 3, y);
        y.plan(0, 1);
        T.accepted("12 no pump", y.judge(), 0, y);
        T.refused("13", y.cost(), y, 5);
    }

    /** 14 to 16, 20 to 22. */
    private static void bestPlans() {
        LastsToNext x = road();
        T.accepted("14", x.cheapest(), 56, x);
        T.accepted("15", x.how(0), 0, x);
        T.accepted("15", x.how(1), 9, x);
        T.accepted("15", x.how(2), 1, x);
        T.refused("15", x.how(3), x, 1);
        T.refused("15", x.how(-1), x, 1);
        T.accepted("16", x.fewest(), 2, x);
        T.accepted("20 alone", Told.of(Told.ROAD).within(1), -2, x);
        T.accepted("20", x.within(2), 56, x);
        T.accepted("20", x.within(1), -2, x);
        T.accepted("20", x.within(0), -2, x);
        T.accepted("20", x.within(9), 56, x);
        T.refused("20", x.within(10), x, 2);
        T.refused("20", x.within(-1), x, 2);
        T.accepted("21", x.rest(), 0, x);
        T.accepted("22", x.need(), 0, x);
        // Like prices: what is bought less at the first station where they differ is taken.
        LastsToNext y = Told.of("car tank 5 has 2 stop 0,0 stuck 7;place a;place b;place c;road a b takes 2 minutes 0;"
                + "road b c takes 2 minutes 0;pump a price 3 shut 9;pump b price 3 shut 9;way a,b,c");
        T.accepted("14 like ones", y.cheapest(), 6, y);
        T.accepted("15 like ones", y.how(0), 0, y);
        T.accepted("15 like ones", y.how(1), 2, y);
        T.accepted("16", y.fewest(), 1, y);
        // One stop costs more than two at better prices.
        LastsToNext z = Told.of("car tank 9 has 0 stop 1,0 stuck 7;place a;place b;place c;road a b takes 2 minutes 0;"
                + "road b c takes 4 minutes 0;pump a price 5 shut 0;pump b price 1 shut 0;way a,b,c");
        T.accepted("14", z.cheapest(), 16, z);
        T.accepted("16", z.fewest(), 1, z);
        T.accepted("20", z.within(1), 31, z);
        T.accepted("20", z.within(2), 16, z);
        LastsToNext w = Told.of("car tank 9 has 9 stop 1,0 stuck 7;place a;place b;road a b takes 4 minutes 0;way a,b");
        T.accepted("14 nothing", w.cheapest(), 0, w);
        T.accepted("16 nothing", w.fewest(), 0, w);
        T.accepted("21", w.rest(), 5, w);
        T.accepted("22", w.need(), 4, w);
        LastsToNext v = Told.of("car tank 3 has 3 stop 1,0 stuck 7;place a;place b;road a b takes 4 minutes 0;pump a price 1 shut 0;way a,b");
        T.accepted("14 none", v.cheapest(), -2, v);
        T.accepted("15 none", v.how(0), -2, v);
        T.accepted("16 none", v.fewest(), -2, v);
        T.accepted("20 none", v.within(9), -2, v);
        T.accepted("21 none", v.rest(), -2, v);
        T.accepted("22 none", v.need(), -2, v);
        T.accepted("18 none", v.without(0), -2, v);
        T.refused("19 none", v.gap(), v, 6);
    }

    /** 18, 19. */
    private static void gaps() {
        LastsToNext x = road();
        T.accepted("18", x.without(0), 56, x);
        T.accepted("18", x.without(1), 84, x);
        T.accepted("18", x.without(2), -2, x);
        T.refused("18", x.without(3), x, 1);
        T.refused("18", x.without(-1), x, 1);
        T.accepted("19", x.gap(), 2, x);
        // One PLACE twice on the way: only the station's pump is shut.
        String twice = "car tank 4 has 0 stop 0,0 stuck 7;place a;place b;road a b takes 1 minutes 0;pump a price 3 shut 0;";
        LastsToNext y = Told.of(twice + "way a,b,a,b");
        T.accepted("18 twice", y.without(0), -2, y);
        T.refused("18 no pump", y.without(1), y, 6);
        T.accepted("18 twice", y.without(2), 9, y);
        T.accepted("19 twice", y.gap(), 0, y);
        LastsToNext z = Told.of(twice + "pump b price 3 shut 0;way b,a,b");
        T.accepted("19", z.gap(), 0, z);
        // No PLAN needs any: the greatest, the first such.
        LastsToNext w = Told.of("car tank 4 has 4 stop 0,0 stuck 7;place a;place b;road a b takes 1 minutes 0;pump a price 3 shut 0;way b,a,b,a");
        T.accepted("19 first such", w.gap(), 1, w);
        LastsToNext v = Told.of("car tank 4 has 4 stop 0,0 stuck 7;place a;place b;road a b takes 1 minutes 0;pump b price 3 shut 0;way a,b");
        T.refused("19 the last one aside", v.gap(), v, 6);
    }

    /** 23 to 25. */
    private static void drivers() {
        LastsToNext x = road();
        int[] byRule = {117, 56, 64, 121};
        for (int rule = 0; rule < 4; rule++) {
            T.accepted("24", x.byRule(rule), byRule[rule], x);
            T.accepted("25", x.stuckAt(rule), -2, x);
        }
        for (int rule : new int[] {-1, 4, HIGH, LOW}) {
            T.refused("24", x.byRule(rule), x, 1);
            T.refused("25", x.stuckAt(rule), x, 1);
            T.refused("23", x.buys(rule, 0, 11, true), x, 1);
            T.refused("26", x.odds(rule, true), x, 1);
            T.refused("27", x.mean(rule, true), x, 1);
        }
        T.accepted("23 full", x.buys(0, 1, 3, false), 7, x);
        T.accepted("23 full", x.buys(0, 1, 10, false), 0, x);
        T.accepted("23 cheap", x.buys(1, 0, 1, false), 2, x);
        T.accepted("23 cheap, no cheaper one, too far", x.buys(1, 1, 0, false), 10, x);
        T.accepted("23 cheap", x.buys(1, 2, 2, false), 3, x);
        T.accepted("23 late", x.buys(2, 0, 3, false), 0, x);
        T.accepted("23 late", x.buys(2, 0, 2, false), 1, x);
        T.accepted("23 half", x.buys(3, 0, 4, false), 6, x);
        T.accepted("23 half", x.buys(3, 0, 5, false), 0, x);
        T.refused("23", x.buys(0, 3, 0, false), x, 1);
        T.refused("23", x.buys(0, -1, 0, false), x, 1);
        T.refused("23", x.buys(0, 0, -1, false), x, 2);
        T.refused("23", x.buys(0, 0, 11, true), x, 2);
        T.refused("23", x.buys(0, 0, 0, true), x, 6);
        // By the dear price the pump ahead is cheaper; by the FIRST one it isn't.
        LastsToNext y = Told.of("car tank 9 has 0 stop 0,0 stuck 50;place a;place b;place c;road a b takes 2 minutes 0;"
                + "road b c takes 8 minutes 0;pump a price 4 or 6 shut 0;pump b price 5 shut 0;way a,b,c");
        T.accepted("23 cheap", y.buys(1, 0, 0, false), 9, y);
        T.accepted("23 cheap, dear", y.buys(1, 0, 0, true), 2, y);
        // An odd tank: less than half of 9 is up to 4.
        T.accepted("23 half", y.buys(3, 0, 4, false), 5, y);
        T.accepted("23 half", y.buys(3, 0, 5, false), 0, y);
        LastsToNext z = Told.of("car tank 5 has 0 stop 0,0 stuck 50;place a;place b;place c;road a b takes 5 minutes 0;"
                + "road b c takes 6 minutes 0;pump a price 4 shut 0;way a,b,c");
        T.accepted("25 stuck", z.stuckAt(0), 1, z);
        T.accepted("24 stuck", z.byRule(0), -2, z);
        T.accepted("23 late, a tank isn't enough", z.buys(2, 0, 1, false), 4, z);
        T.refused("23 no pump", z.buys(0, 1, 0, false), z, 6);
    }

    /** 26 to 31. */
    private static void chances() {
        LastsToNext x = road();
        x.station(-1);
        T.accepted("26", x.odds(2, false), 1, x);
        T.accepted("26", x.odds(2, true), 2, x);
        T.accepted("27", x.mean(3, false), 103, x);
        T.accepted("27", x.mean(3, true), 1, x);
        T.accepted("28", x.bestRule(), 1, x);
        T.accepted("29", x.bestMean(false), 72, x);
        T.accepted("29", x.bestMean(true), 1, x);
        T.accepted("30", x.buy(1, 1, false), 5, x);
        T.refused("30", x.buy(3, 1, false), x, 1);
        T.refused("30", x.buy(0, 11, true), x, 2);
        T.refused("30", x.buy(0, -1, false), x, 2);
        T.refused("30", x.buy(0, 1, true), x, 6);
        T.accepted("31", x.sure(false), 1, x);
        T.accepted("31", x.sure(true), 1, x);
        // Two prices and a pump shut three times of ten: (3 * 90 + 7 * (4 + (2 + 3) * 3 / 2)) / 10 = 701 / 20.
        LastsToNext y = Told.of("car tank 3 has 0 stop 4,0 stuck 90;place a;place b;road a b takes 3 minutes 0;"
                + "pump a price 2 or 3 shut 3;way a,b");
        T.accepted("27", y.mean(0, false), 701, y);
        T.accepted("27", y.mean(0, true), 20, y);
        T.accepted("26", y.odds(0, false), 7, y);
        T.accepted("26", y.odds(0, true), 10, y);
        T.accepted("31", y.sure(false), 7, y);
        T.accepted("31", y.sure(true), 10, y);
        T.accepted("28 like ones", y.bestRule(), 0, y);
        T.accepted("30", y.buy(0, 0, true), 3, y);
        T.accepted("29", y.bestMean(false), 701, y);
        T.accepted("29", y.bestMean(true), 20, y);
        // To be STUCK costs less than to go on.
        LastsToNext z = Told.of("car tank 3 has 0 stop 4,0 stuck 5;place a;place b;road a b takes 3 minutes 0;"
                + "pump a price 2 shut 0;way a,b");
        T.accepted("29", z.bestMean(false), 5, z);
        T.accepted("30", z.buy(0, 0, false), 0, z);
        T.accepted("31", z.sure(false), 1, z);
        LastsToNext w = Told.of("car tank 3 has 3 stop 4,0 stuck 5;place a;place b;road a b takes 3 minutes 0;pump b price 2 shut 9;way a,b");
        T.accepted("27 0 by 1", w.mean(0, false), 0, w);
        T.accepted("27 0 by 1", w.mean(0, true), 1, w);
        // Eight pumps in a row, shut nine of ten times: the largest fractions there are.
        LastsToNext v = Told.of("car tank 1 has 0 stop 99,60 stuck 999;place a;place b;road a b takes 1 minutes 0;"
                + "pump a price 99 or 98 shut 9;pump b price 97 or 96 shut 9;way a,b,a,b,a,b,a,b,a");
        T.accepted("26 deep", v.odds(0, false), 1, v);
        T.accepted("26 deep", v.odds(0, true), 100_000_000L, v);
    }

    /** 32 to 35. */
    private static void theNet() {
        LastsToNext x = road();
        T.accepted("32", x.net(false), 56, x);
        T.accepted("32", x.net(true), 50, x);
        T.accepted("33", x.most(0), 10, x);
        T.accepted("33", x.most(3), 5, x);
        T.refused("33", x.most(4), x, 1);
        T.refused("33", x.most(-1), x, 1);
        T.accepted("34", x.near(0, 3), 13, x);
        T.accepted("34", x.near(3, 1), 11, x);
        T.refused("34", x.near(3, 3), x, 1);
        T.refused("34", x.near(0, 4), x, 1);
        T.refused("34", x.near(LOW, HIGH), x, 1);
        T.accepted("35", x.worth(), 0, x);
        // The way costs more than the straight road; one place lies apart.
        LastsToNext y = Told.of("car tank 5 has 0 stop 1,7 stuck 9;place a;place b;place c;place d;road a b takes 5 minutes 9;"
                + "road b c takes 5 minutes 9;road a c takes 5 minutes 30;pump a price 2 shut 0;pump b price 3 shut 0;way a,b,c");
        T.accepted("14", y.cheapest(), 27, y);
        T.accepted("32", y.net(false), 11, y);
        T.accepted("32", y.net(true), 32, y);
        T.accepted("35", y.worth(), 16, y);
        T.accepted("34", y.near(0, 3), -2, y);
        T.accepted("33", y.most(3), -2, y);
        T.accepted("33", y.most(1), 5, y);
        T.accepted("33", y.most(2), 0, y);
        LastsToNext z = Told.of("car tank 5 has 1 stop 1,7 stuck 9;place a;place b;road a b takes 1 minutes 9;way a,b,a");
        T.accepted("32 there already", z.net(false), 0, z);
        T.accepted("32 there already", z.net(true), 0, z);
        T.accepted("35", z.worth(), -2, z);
    }

    /** 36 to 39. */
    private static void desert() {
        LastsToNext x = road();
        T.accepted("36", x.far(1, false, false), 10, x);
        T.accepted("36", x.far(1, false, true), 1, x);
        T.accepted("36", x.far(3, false, false), 46, x);
        T.accepted("36", x.far(3, false, true), 3, x);
        T.accepted("36 home", x.far(2, true, false), 15, x);
        T.accepted("36 home", x.far(2, true, true), 2, x);
        Ratio out = Ratio.ZERO;
        Ratio home = Ratio.ZERO;
        Ratio convoy = Ratio.ZERO;
        for (int n = 1; n <= 12; n++) {
            out = out.plus(Ratio.of(10, 2L * n - 1));
            home = home.plus(Ratio.of(10, 2L * n));
            convoy = convoy.plus(Ratio.of(10, n));
            T.accepted("36 " + n, x.far(n, false, false), out.upper.longValueExact(), x);
            T.accepted("36 " + n, x.far(n, false, true), out.lower.longValueExact(), x);
            T.accepted("36 " + n, x.far(n, true, false), home.upper.longValueExact(), x);
            T.accepted("36 " + n, x.far(n, true, true), home.lower.longValueExact(), x);
            T.accepted("39 " + n, x.convoy(n, false), convoy.upper.longValueExact(), x);
            T.accepted("39 " + n, x.convoy(n, true), convoy.lower.longValueExact(), x);
        }
        for (int n : new int[] {0, 13, -1, HIGH, LOW}) {
            T.refused("36", x.far(n, false, false), x, 2);
            T.refused("39", x.convoy(n, false), x, 2);
            T.refused("38", x.depot(n, false, 1, false), x, 2);
        }
        T.accepted("37", x.loads(0, false), 0, x);
        T.accepted("37", x.loads(10, false), 1, x);
        T.accepted("37", x.loads(11, false), 2, x);
        T.accepted("37", x.loads(15, false), 3, x);
        T.accepted("37 home", x.loads(5, true), 1, x);
        T.accepted("37 home", x.loads(6, true), 2, x);
        T.accepted("37 home", x.loads(15, true), 11, x);
        T.accepted("37", x.loads(22, false), 12, x);
        T.accepted("37", x.loads(23, false), -2, x);
        T.accepted("37", x.loads(999, true), -2, x);
        T.refused("37", x.loads(1000, true), x, 2);
        T.refused("37", x.loads(-1, true), x, 2);
        T.accepted("38", x.depot(3, false, 1, false), 2, x);
        T.accepted("38", x.depot(3, false, 1, true), 1, x);
        T.accepted("38", x.depot(3, false, 2, false), 16, x);
        T.accepted("38", x.depot(3, false, 2, true), 3, x);
        T.accepted("38 home", x.depot(3, true, 2, false), 25, x);
        T.accepted("38 home", x.depot(3, true, 2, true), 6, x);
        T.accepted("38", x.depot(2, false, 1, false), 10, x);
        T.accepted("38", x.depot(2, false, 1, true), 3, x);
        T.accepted("38 home", x.depot(12, true, 1, true), 12, x);
        T.refused("38", x.depot(1, false, 1, true), x, 2);
        T.refused("38", x.depot(3, false, 0, true), x, 1);
        T.refused("38", x.depot(3, false, 3, true), x, 1);
        T.refused("38", x.depot(13, false, 99, true), x, 2);
        T.refused("38", x.depot(12, false, LOW, true), x, 1);
    }

    /** 40 to 43. */
    private static void receipts() {
        LastsToNext x = road();
        T.accepted("40", x.fits(), 1, x);
        for (int i = 0; i < 4; i++) {
            T.accepted("41", x.fit(0, i), i, x);
        }
        T.refused("41", x.fit(0, 4), x, 1);
        T.refused("41", x.fit(0, -1), x, 1);
        T.refused("41", x.fit(1, 0), x, 1);
        T.refused("41", x.fit(-1, 0), x, 1);
        T.accepted("42", x.went(false), 15, x);
        T.accepted("42", x.went(true), 15, x);
        T.accepted("43", x.needle(false), 4, x);
        T.accepted("43", x.needle(true), 4, x);
        // Two ways round from a to d; nothing on the receipts.
        String net = "car tank 9 has 6 stop 0,0 stuck 0;place a;place b;place c;place d;road a b takes 2 minutes 0;"
                + "road b d takes 2 minutes 0;road a c takes 3 minutes 0;road c d takes 3 minutes 0;road b c takes 1 minutes 0;"
                + "pump b price 2 or 3 shut 0;way a,b,d";
        LastsToNext y = Told.of(net);
        T.accepted("40", y.fits(), 4, y);
        int[][] rows = {{0, 1, 2, 3}, {0, 1, 3}, {0, 2, 1, 3}, {0, 2, 3}};
        for (int k = 0; k < 4; k++) {
            for (int i = 0; i < rows[k].length; i++) {
                T.accepted("41", y.fit(k, i), rows[k][i], y);
            }
        }
        T.accepted("42", y.went(false), 15, y);
        T.accepted("42", y.went(true), 9, y);
        T.accepted("43", y.needle(false), 4, y);
        T.accepted("43", y.needle(true), 9, y);
        // 6 pence are 3 pints or 2: begun with 9 it has 7 at b and only 2 go in.
        LastsToNext z = Told.of(net + ";receipt b 6");
        T.accepted("40", z.fits(), 3, z);
        T.accepted("42", z.went(true), 11, z);
        T.accepted("43", z.needle(false), 2, z);
        T.accepted("43", z.needle(true), 9, z);
        // Two receipts in one place; 5 and 7 pence have no whole pints but by one price or none.
        LastsToNext w = Told.of(net + ";receipt b 4;receipt b 3");
        T.accepted("40", w.fits(), 3, w);
        LastsToNext v = Told.of(net + ";receipt b 5");
        T.accepted("40 with rest", v.fits(), 0, v);
        T.accepted("42", v.went(false), 0, v);
        T.accepted("42", v.went(true), 0, v);
        T.accepted("43", v.needle(false), -2, v);
        T.accepted("43", v.needle(true), -2, v);
        // In their order: c lies behind b on some ways and ahead of it on others.
        LastsToNext u = Told.of(net.replace("way", "pump c price 1 shut 0;way") + ";receipt c 1;receipt b 2");
        T.accepted("40 in order", u.fits(), 1, u);
        T.accepted("41 in order", u.fit(0, 1), 2, u);
        T.accepted("42 in order", u.went(true), 15, u);
        // As much as any tank takes at once.
        LastsToNext s = Told.of("car tank 40 has 0 stop 0,0 stuck 0;place a;place b;road a b takes 40 minutes 0;pump a price 1 shut 0;way a,b;receipt a 40");
        T.accepted("40 a whole tank", s.fits(), 1, s);
        T.accepted("43 a whole tank", s.needle(true), 0, s);
        // Each call searches by itself.
        T.accepted("42 alone", Told.of(net).went(false), 15, u);
        T.accepted("42 alone", Told.of(net).went(true), 9, u);
        T.accepted("43 alone", Told.of(net).needle(false), 4, u);
        T.accepted("41 alone", Told.of(net).fit(3, 2), 3, u);
        // From a place to itself there is but the row of that place.
        LastsToNext t = Told.of("car tank 5 has 1 stop 1,7 stuck 9;place a;place b;road a b takes 1 minutes 9;way b,a,b");
        T.accepted("40 itself", t.fits(), 1, t);
        T.accepted("41 itself", t.fit(0, 0), 1, t);
        T.refused("41 itself", t.fit(0, 1), t, 1);
    }

    /** 44 to 46. */
    private static void runs() {
        // One pump, shut half the time: SEED 0 draws 74, so 4: shut.
        LastsToNext x = Told.of("car tank 3 has 0 stop 4,0 stuck 90;place a;place b;road a b takes 3 minutes 0;"
                + "pump a price 2 or 3 shut 5;way a,b");
        T.accepted("44", x.run(0, 0), -2, x);
        // SEED 1 draws 149: open; then 75 * 149 + 74 = 11249: the second price.
        T.accepted("44", x.run(0, 1), 13, x);
        T.accepted("44", x.run(2, 1), 13, x);
        // 65536 draws itself again: open, the first price.
        T.accepted("44", x.run(0, 65536), 10, x);
        T.accepted("45", x.through(0, 0, 2), 1, x);
        T.accepted("45 round", x.through(0, 65536, 3), 2, x);
        T.accepted("46 like", x.beats(0, 1, 0, 50), 0, x);
        for (int seed : new int[] {-1, 65537, HIGH, LOW}) {
            T.refused("44", x.run(0, seed), x, 2);
            T.refused("45", x.through(0, seed, 1), x, 2);
            T.refused("46", x.beats(0, 1, seed, 1), x, 2);
        }
        for (int n : new int[] {0, 51, HIGH, LOW}) {
            T.refused("45", x.through(0, 0, n), x, 2);
            T.refused("46", x.beats(0, 1, 0, n), x, 2);
        }
        for (int rule : new int[] {-1, 4, HIGH, LOW}) {
            T.refused("44", x.run(rule, -1), x, 1);
            T.refused("45", x.through(rule, 0, 0), x, 1);
            T.refused("46", x.beats(rule, 0, 0, 0), x, 1);
            T.refused("46", x.beats(0, rule, 0, 0), x, 1);
        }
        T.due("44 SEED stays", x.size(10), 5624);
        // LATE trusts a pump that is shut nine of ten times; FULL has filled up before.
        LastsToNext y = Told.of("car tank 9 has 0 stop 0,0 stuck 90;place a;place b;place c;road a b takes 3 minutes 0;"
                + "road b c takes 3 minutes 0;pump a price 2 shut 0;pump b price 1 shut 9;way a,b,c");
        T.accepted("45", y.through(0, 0, 50), 50, y);
        int late = y.through(2, 0, 50);
        T.due("46", y.beats(2, 0, 0, 50), late);
        T.due("46", y.beats(0, 2, 0, 50), 50 - late);
        T.due("45 some are stuck", late > 0 && late < 50, true);
    }

    /** 47 to 51. */
    private static void journey() {
        LastsToNext x = road();
        int[] first = {0, 4, 0, 0, 9};
        for (int what = 0; what < 5; what++) {
            T.accepted("47", x.car(what), first[what], x);
        }
        T.refused("47", x.car(5), x, 1);
        T.refused("47", x.car(-1), x, 1);
        T.accepted("48", x.fill(2), 20, x);
        T.accepted("48 the stop is paid", x.fill(1), 29, x);
        T.accepted("47", x.car(3), 5, x);
        T.refused("48", x.fill(4), x, 2);
        T.refused("48", x.fill(0), x, 2);
        T.refused("48", x.fill(HIGH), x, 2);
        T.accepted("50", x.waits(), 9, x);
        T.accepted("48 a stop again", x.fill(1), 40, x);
        T.accepted("47", x.car(3), 20, x);
        T.refused("49", x.drive(0), x, 1);
        T.refused("49", x.drive(4), x, 1);
        T.refused("49", x.drive(-1), x, 1);
        T.refused("49", x.drive(3), x, 6);
        T.due("51", x.seed(0), true);
        T.accepted("49 to red, 74: shut", x.drive(1), 5, x);
        T.accepted("47", x.car(4), -2, x);
        T.due("10", x.size(10), 74);
        T.refused("48", x.fill(1), x, 6);
        T.refused("48", x.fill(0), x, 6);
        T.refused("49", x.drive(2), x, 5);
        T.accepted("50 5624: shut", x.waits(), -2, x);
        T.due("51", x.seed(1), true);
        T.accepted("50 149: open", x.waits(), 5, x);
        T.accepted("48", x.fill(5), 67, x);
        T.accepted("49 to lake", x.drive(2), 4, x);
        // SEED 149 becomes 11249 and then 57285: the second price.
        T.due("10", x.size(10), (75 * 11249 + 74) % 65537);
        T.accepted("47", x.car(4), ((75 * 11249 + 74) % 65537) % 2 == 0 ? 7 : 3, x);
        T.accepted("47", x.car(0), 2, x);
        T.accepted("47", x.car(3), 20 + 10 + 20 + 5 + 20, x);
        T.refused("51", x.seed(-1), x, 2);
        T.refused("51", x.seed(65537), x, 2);
        T.due("51", x.seed(65536), true);
        T.due("57 of seed", x.trouble(), 0);
        T.due("51 size", x.size(10), 65536);
    }

    /** 52 to 54. */
    private static void undoing() {
        LastsToNext x = road();
        T.refused("52", x.undo(), x, 6);
        x.plan(0, 3);
        x.seed(5);
        T.due("52 no ACTS", x.size(11), 0);
        x.fill(6);
        x.drive(2);
        x.seed(99);
        x.station(-1);
        T.due("52", x.undo(), true);
        T.due("57 of undo", x.trouble(), 0);
        T.due("52 SEED too", x.size(10), 5);
        T.due("52", x.car(0), 0);
        T.due("52", x.undo(), true);
        T.due("52", x.car(2), 0);
        T.accepted("52 a stop to pay", x.fill(1), 11, x);
        x.undo();
        for (int i = 0; i < 15; i++) {
            x.waits();
        }
        T.due("52 twelve", x.size(11), 12);
        for (int i = 0; i < 12; i++) {
            T.due("52", x.undo(), true);
        }
        T.refused("52 no more", x.undo(), x, 6);
        T.due("52", x.car(3), 30);
        T.accepted("53", x.image(), 0, x);
        x.waits();
        T.accepted("53", x.image(), 1, x);
        T.accepted("53", x.image(), 2, x);
        T.refused("53", x.image(), x, 3);
        T.due("12", x.size(12), 3);
        x.seed(7);
        x.station(-1);
        T.due("54", x.back(0), true);
        T.due("57 of back", x.trouble(), 0);
        T.due("54", x.car(3), 30);
        T.due("54 nothing undone", x.size(11), 0);
        T.refused("54 nothing undone", x.undo(), x, 6);
        T.due("54 all stay", x.back(2), true);
        T.due("54", x.car(3), 40);
        T.refused("54", x.back(3), x, 1);
        T.refused("54", x.back(-1), x, 1);
        T.due("12", x.size(12), 3);
        // The PLAN is as it was set, whatever is undone or gone back to.
        x.plan(0, 0);
        x.plan(1, 9);
        x.plan(2, 1);
        x.back(1);
        x.waits();
        x.undo();
        T.accepted("54 the PLAN", x.cost(), 56, x);
    }

    /** 55 to 57. */
    private static void whatIsTold() {
        LastsToNext x = road();
        T.due("55", Told.led(x, 0), 1);
        T.due("55", Told.led(x, 1), -1);
        T.due("55", Told.led(x, -1), -1);
        x.fill(6);
        T.due("55", Told.led(x, 0), 1);
        T.due("55", Told.led(x, 1), 2);
        T.due("55", Told.led(x, 2), -1);
        T.due("55", Told.led(x, HIGH), -1);
        int[] sizes = {10, 4, 2, 5, 90, 4, 4, 3, 4, 2, 74, 1, 0, 0};
        for (int what = 0; what < sizes.length; what++) {
            T.due("56 " + what, x.size(what), sizes[what]);
        }
        T.due("56", x.size(14), -1);
        T.due("56", x.size(-1), -1);
        x.feed(0, 0, 0, 0, 0);
        T.due("56 tape", x.size(13), 20);
        x.station(9);
        T.due("57", x.trouble(), 1);
        // These tell no number, so they leave it.
        x.size(99);
        x.fault();
        x.where();
        Told.led(x, 99);
        x.feed(0, 0, 0, 0, 0);
        T.due("57", x.trouble(), 1);
        x.station(0);
        T.due("57", x.trouble(), 0);
    }
}
