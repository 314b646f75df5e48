import java.util.Arrays;
import java.util.NoSuchElementException;

public final class LastsToNext {
    public static final int NONE = -1;

    /** What a call answers that wasn't refused but finds that there is none. */
    private static final int NO = -2;

    private static final int NO_SUCH = 1;
    private static final int BAD_NUMBER = 2;
    private static final int NO_ROOM = 3;
    private static final int FAULTY = 4;
    private static final int NOT_SO = 5;
    private static final int NOT_THERE = 6;

    private static final int TAPE = 800;
    private static final int FED = 20;
    private static final int PLACES = 9;
    private static final int ROADS = 14;
    private static final int PUMPS = 8;
    private static final int STATIONS = 9;
    private static final int RECEIPTS = 5;
    private static final int TANK = 40;
    private static final int LEVELS = TANK + 1;
    private static final int RULES = 4;
    private static final int LOADS = 12;
    private static final int RUNS = 50;
    private static final int SEEDS = 65537;

    private final byte[] tape = new byte[TAPE];
    private int taped;
    private Road road = new Road();
    private Road spare = new Road();
    private final Reader reader = new Reader();
    private final Plans plans = new Plans();
    private final Drivers drivers = new Drivers();
    private final Net net = new Net();
    private final Receipts receipts = new Receipts();
    private final Journey journey = new Journey();
    private final Fraction fraction = new Fraction();
    private int trouble;
    private int fault;
    private int faultPlace;

    public LastsToNext() {
    }

    // ---- the road

    public int feed(int a, int b, int c, int d, int e) {
        if (taped + FED > TAPE) {
            return NONE;
        }
        putBytes(a);
        putBytes(b);
        putBytes(c);
        putBytes(d);
        putBytes(e);
        return taped;
    }

    public int road(int n) {
        if (n < 0 || n > taped) {
            return refuse(BAD_NUMBER);
        }
        taped = 0;
        boolean whole = reader.readRoad(tape, n, spare);
        fault = reader.fault;
        faultPlace = reader.faultPlace;
        if (!whole) {
            return refuse(FAULTY);
        }
        Road former = road;
        road = spare;
        spare = former;
        plans.forget();
        journey.begin(road);
        return accept(road.stations);
    }

    public int fault() {
        return fault;
    }

    public int where() {
        return trouble == FAULTY ? faultPlace : NONE;
    }

    // ---- as told

    public int takes(int a, int b, boolean minutes) {
        if (!areTwoPlaces(a, b)) {
            return refuse(NO_SUCH);
        }
        if (!road.isRoad(a, b)) {
            return accept(NO);
        }
        return accept(minutes ? road.minutesOf(a, b) : road.pintsOf(a, b));
    }

    public int pump(int place, int what) {
        if (!road.isPlace(place) || what < 0 || what > 2) {
            return refuse(NO_SUCH);
        }
        int first = road.first[place];
        if (first == 0) {
            return refuse(NOT_THERE);
        }
        if (what == 0) {
            return accept(first);
        }
        if (what == 2) {
            return accept(road.shut[place]);
        }
        int second = road.second[place];
        return accept(second == 0 ? NO : second);
    }

    public int station(int i) {
        if (!road.isStation(i)) {
            return refuse(NO_SUCH);
        }
        return accept(road.way[i]);
    }

    public int legs(int i, int j) {
        if (!road.isStation(i) || !road.isStation(j) || j <= i) {
            return refuse(NO_SUCH);
        }
        return accept(road.legsPints(i, j));
    }

    // ---- plans

    public int lasts(int i, int pints) {
        if (!road.isStation(i)) {
            return refuse(NO_SUCH);
        }
        if (!road.isLevel(pints)) {
            return refuse(BAD_NUMBER);
        }
        return accept(road.lastReached(i, pints));
    }

    public boolean plan(int i, int n) {
        if (!road.isLeft(i)) {
            return deny(NO_SUCH);
        }
        if (!road.isLevel(n)) {
            return deny(BAD_NUMBER);
        }
        plans.planned[i] = n;
        return allow();
    }

    public int judge() {
        if (!road.isTold()) {
            return refuse(NO_SUCH);
        }
        return accept(plans.failsAt(road));
    }

    public int cost() {
        if (!road.isTold()) {
            return refuse(NO_SUCH);
        }
        if (plans.failsAt(road) != NO) {
            return refuse(NOT_SO);
        }
        return accept(plans.pence(road));
    }

    public int cheapest() {
        if (!road.isTold()) {
            return refuse(NO_SUCH);
        }
        return accept(plans.leastCost(road, NONE));
    }

    public int how(int i) {
        if (!road.isLeft(i)) {
            return refuse(NO_SUCH);
        }
        return accept(plans.cheapestPints(road, i));
    }

    public int fewest() {
        if (!road.isTold()) {
            return refuse(NO_SUCH);
        }
        return accept(plans.fewestStops(road));
    }

    public int time() {
        if (!road.isTold()) {
            return refuse(NO_SUCH);
        }
        if (plans.failsAt(road) != NO) {
            return refuse(NOT_SO);
        }
        return accept(plans.minutes(road));
    }

    public int without(int i) {
        if (!road.isLeft(i)) {
            return refuse(NO_SUCH);
        }
        if (!road.hasPumpAt(i)) {
            return refuse(NOT_THERE);
        }
        return accept(plans.leastCost(road, i));
    }

    public int gap() {
        if (!road.isTold()) {
            return refuse(NO_SUCH);
        }
        int station = plans.worstGap(road);
        return station == NONE ? refuse(NOT_THERE) : accept(station);
    }

    public int within(int k) {
        if (!road.isTold()) {
            return refuse(NO_SUCH);
        }
        if (k < 0 || k > Plans.STOPS) {
            return refuse(BAD_NUMBER);
        }
        return accept(plans.leastWithin(road, k));
    }

    public int rest() {
        if (!road.isTold()) {
            return refuse(NO_SUCH);
        }
        return accept(plans.cheapestRest(road));
    }

    public int need() {
        if (!road.isTold()) {
            return refuse(NO_SUCH);
        }
        return accept(plans.leastBeginning(road));
    }

    // ---- drivers

    public int buys(int rule, int i, int pints, boolean dear) {
        int number = isRule(rule) ? whyNoBuying(i, pints, dear) : NO_SUCH;
        if (number != 0) {
            return refuse(number);
        }
        return accept(drivers.pintsByRule(road, rule, i, pints, road.priceAt(i, dear)));
    }

    public int byRule(int rule) {
        if (!isRuleOfRoad(rule)) {
            return refuse(NO_SUCH);
        }
        return accept(drivers.travelOpen(road, rule));
    }

    public int stuckAt(int rule) {
        if (!isRuleOfRoad(rule)) {
            return refuse(NO_SUCH);
        }
        drivers.travelOpen(road, rule);
        return accept(drivers.stuckStation);
    }

    public long odds(int rule, boolean lower) {
        if (!isRuleOfRoad(rule)) {
            return refuse(NO_SUCH);
        }
        drivers.reckonOdds(road, rule, fraction);
        return acceptFraction(lower);
    }

    public long mean(int rule, boolean lower) {
        if (!isRuleOfRoad(rule)) {
            return refuse(NO_SUCH);
        }
        drivers.reckonMean(road, rule, fraction);
        return acceptFraction(lower);
    }

    public int bestRule() {
        if (!road.isTold()) {
            return refuse(NO_SUCH);
        }
        return accept(drivers.ruleOfLeastMean(road));
    }

    public long bestMean(boolean lower) {
        if (!road.isTold()) {
            return refuse(NO_SUCH);
        }
        drivers.reckonMean(road, Drivers.BEST, fraction);
        return acceptFraction(lower);
    }

    public int buy(int i, int pints, boolean dear) {
        int number = whyNoBuying(i, pints, dear);
        if (number != 0) {
            return refuse(number);
        }
        return accept(drivers.bestPints(road, i, pints, road.priceAt(i, dear)));
    }

    public long sure(boolean lower) {
        if (!road.isTold()) {
            return refuse(NO_SUCH);
        }
        // More in the tank never gets a car less far: who always fills up gets through most surely.
        drivers.reckonOdds(road, Drivers.FULL, fraction);
        return acceptFraction(lower);
    }

    // ---- the net

    public int net(boolean minutes) {
        if (!road.isTold()) {
            return refuse(NO_SUCH);
        }
        return accept(net.least(road, minutes));
    }

    public int most(int place) {
        if (!road.isPlace(place)) {
            return refuse(NO_SUCH);
        }
        return accept(net.mostPints(road, place));
    }

    public int near(int a, int b) {
        if (!areTwoPlaces(a, b)) {
            return refuse(NO_SUCH);
        }
        return accept(net.nearest(road, a, b));
    }

    public int worth() {
        if (!road.isTold()) {
            return refuse(NO_SUCH);
        }
        int along = plans.leastCost(road, NONE);
        int round = net.least(road, false);
        return accept(along == NO || round == NO ? NO : along - round);
    }

    // ---- a desert

    public long far(int n, boolean home, boolean lower) {
        if (!road.isTold()) {
            return refuse(NO_SUCH);
        }
        if (n < 1 || n > LOADS) {
            return refuse(BAD_NUMBER);
        }
        addParts(home, 1, n);
        return acceptFraction(lower);
    }

    public int loads(int miles, boolean home) {
        if (!road.isTold()) {
            return refuse(NO_SUCH);
        }
        if (miles < 0 || miles > 999) {
            return refuse(BAD_NUMBER);
        }
        return accept(fewestLoads(miles, home));
    }

    public long depot(int n, boolean home, int k, boolean lower) {
        if (!road.isTold()) {
            return refuse(NO_SUCH);
        }
        if (n < 2 || n > LOADS) {
            return refuse(BAD_NUMBER);
        }
        if (k < 1 || k >= n) {
            return refuse(NO_SUCH);
        }
        addParts(home, n - k + 1, n);
        return acceptFraction(lower);
    }

    public long convoy(int n, boolean lower) {
        if (!road.isTold()) {
            return refuse(NO_SUCH);
        }
        if (n < 1 || n > LOADS) {
            return refuse(BAD_NUMBER);
        }
        fraction.become(0, 1);
        for (int car = 1; car <= n; car++) {
            fraction.plus(road.tank, car);
        }
        return acceptFraction(lower);
    }

    // ---- receipts

    public int fits() {
        if (!road.isTold()) {
            return refuse(NO_SUCH);
        }
        receipts.search(road, NONE);
        return accept(receipts.found);
    }

    public int fit(int k, int i) {
        if (!road.isTold() || k < 0) {
            return refuse(NO_SUCH);
        }
        receipts.search(road, k);
        if (k >= receipts.found || i < 0 || i >= receipts.pickedLength) {
            return refuse(NO_SUCH);
        }
        return accept(receipts.picked[i]);
    }

    public int went(boolean surely) {
        if (!road.isTold()) {
            return refuse(NO_SUCH);
        }
        receipts.search(road, NONE);
        return accept(surely ? receipts.surely : receipts.could);
    }

    public int needle(boolean most) {
        if (!road.isTold()) {
            return refuse(NO_SUCH);
        }
        receipts.search(road, NONE);
        long beginnings = receipts.beginnings;
        if (beginnings == 0) {
            return accept(NO);
        }
        return accept(most ? 63 - Long.numberOfLeadingZeros(beginnings) : Long.numberOfTrailingZeros(beginnings));
    }

    // ---- a journey

    public int run(int rule, int seed) {
        int number = whyNoRuns(rule, seed, 1);
        if (number != 0) {
            return refuse(number);
        }
        return accept(drivers.travelDrawn(road, rule, seed));
    }

    public int through(int rule, int seed, int n) {
        int number = whyNoRuns(rule, seed, n);
        if (number != 0) {
            return refuse(number);
        }
        int count = 0;
        for (int k = 0; k < n; k++) {
            if (drivers.travelDrawn(road, rule, (seed + k) % SEEDS) != NO) {
                count++;
            }
        }
        return accept(count);
    }

    public int beats(int rule, int other, int seed, int n) {
        int number = isRule(other) ? whyNoRuns(rule, seed, n) : NO_SUCH;
        if (number != 0) {
            return refuse(number);
        }
        int count = 0;
        for (int k = 0; k < n; k++) {
            int one = drivers.travelDrawn(road, rule, (seed + k) % SEEDS);
            int two = drivers.travelDrawn(road, other, (seed + k) % SEEDS);
            if (one != NO && (two == NO || one < two)) {
                count++;
            }
        }
        return accept(count);
    }

    public int car(int what) {
        if (!road.isTold() || what < 0 || what > Journey.PRICE) {
            return refuse(NO_SUCH);
        }
        return accept(journey.now[what]);
    }

    public int fill(int n) {
        if (!road.isTold()) {
            return refuse(NO_SUCH);
        }
        if (journey.now[Journey.PRICE] == NO) {
            return refuse(NOT_THERE);
        }
        if (n < 1 || n > road.tank - journey.now[Journey.PINTS]) {
            return refuse(BAD_NUMBER);
        }
        journey.takeIn(road, n);
        return accept(journey.now[Journey.PENCE]);
    }

    public int drive(int place) {
        int from = journey.now[Journey.PLACE];
        if (!areTwoPlaces(from, place)) {
            return refuse(NO_SUCH);
        }
        if (!road.isRoad(from, place)) {
            return refuse(NOT_THERE);
        }
        if (!journey.canGo(road, place)) {
            return refuse(NOT_SO);
        }
        journey.goTo(road, place);
        return accept(journey.now[Journey.PINTS]);
    }

    public int waits() {
        if (!road.isTold()) {
            return refuse(NO_SUCH);
        }
        journey.stay(road);
        return accept(journey.now[Journey.PRICE]);
    }

    public boolean seed(int v) {
        if (!road.isTold()) {
            return deny(NO_SUCH);
        }
        if (!isSeed(v)) {
            return deny(BAD_NUMBER);
        }
        journey.now[Journey.SEED] = v;
        return allow();
    }

    public boolean undo() {
        if (journey.undoable == 0) {
            return deny(NOT_THERE);
        }
        journey.takeBack();
        return allow();
    }

    public int image() {
        if (!road.isTold()) {
            return refuse(NO_SUCH);
        }
        if (journey.pictured >= Journey.IMAGES) {
            return refuse(NO_ROOM);
        }
        return accept(journey.picture());
    }

    public boolean back(int image) {
        if (image < 0 || image >= journey.pictured) {
            return deny(NO_SUCH);
        }
        journey.returnTo(image);
        return allow();
    }

    // ---- what is told

    public int led(int i) throws NoSuchElementException {
        int place = journey.openPlace(road, i);
        if (place == NONE) {
            throw new NoSuchElementException("no such place");
        }
        return place;
    }

    public int size(int what) {
        switch (what) {
            case 10:
                return journey.now[Journey.SEED];
            case 11:
                return journey.undoable;
            case 12:
                return journey.pictured;
            case 13:
                return taped;
            default:
                return road.sizeOf(what);
        }
    }

    public int trouble() {
        return trouble;
    }

    // ---- what the calls share

    private void putBytes(int number) {
        for (int shift = 24; shift >= 0; shift -= 8) {
            tape[taped] = (byte) (number >> shift);
            taped++;
        }
    }

    private int accept(int answer) {
        trouble = 0;
        return answer;
    }

    private int refuse(int number) {
        trouble = number;
        return NONE;
    }

    private boolean allow() {
        trouble = 0;
        return true;
    }

    private boolean deny(int number) {
        trouble = number;
        return false;
    }

    private long acceptFraction(boolean lower) {
        trouble = 0;
        return lower ? fraction.lower : fraction.upper;
    }

    private boolean areTwoPlaces(int a, int b) {
        return road.isPlace(a) && road.isPlace(b) && a != b;
    }

    private boolean isRuleOfRoad(int rule) {
        return road.isTold() && isRule(rule);
    }

    /** The number by which buying at a station is refused, or 0. */
    private int whyNoBuying(int i, int pints, boolean dear) {
        if (!road.isLeft(i)) {
            return NO_SUCH;
        }
        if (!road.isLevel(pints)) {
            return BAD_NUMBER;
        }
        return road.priceAt(i, dear) == 0 ? NOT_THERE : 0;
    }

    /** The number by which RUNS are refused, or 0. */
    private int whyNoRuns(int rule, int seed, int n) {
        if (!isRuleOfRoad(rule)) {
            return NO_SUCH;
        }
        return isSeed(seed) && n >= 1 && n <= RUNS ? 0 : BAD_NUMBER;
    }

    private static boolean isRule(int rule) {
        return rule >= 0 && rule < RULES;
    }

    private static boolean isSeed(int v) {
        return v >= 0 && v < SEEDS;
    }

    /** The parts of the DESERT's LAW from one to another, both counted from 1, together. */
    private void addParts(boolean home, int from, int to) {
        fraction.become(0, 1);
        for (int part = from; part <= to; part++) {
            fraction.plus(road.tank, home ? 2 * part : 2 * part - 1);
        }
    }

    private int fewestLoads(int miles, boolean home) {
        for (int n = 0; n <= LOADS; n++) {
            addParts(home, 1, n);
            if (fraction.upper >= miles * fraction.lower) {
                return n;
            }
        }
        return NO;
    }

    /** A fraction in lowest terms, none below 0. */
    private static final class Fraction {
        /** Euclid's way takes at most some 90 steps for any two longs. */
        private static final int STEPS = 200;

        long upper;
        long lower = 1;

        void become(long newUpper, long newLower) {
            long divisor = commonDivisor(newUpper, newLower);
            if (divisor == 0) {
                divisor = 1;
            }
            upper = newUpper / divisor;
            lower = newLower / divisor;
        }

        void plus(long otherUpper, long otherLower) {
            become(upper * otherLower + otherUpper * lower, lower * otherLower);
        }

        private static long commonDivisor(long a, long b) {
            long greater = a;
            long less = b;
            for (int step = 0; step < STEPS && less != 0; step++) {
                long rest = greater % less;
                greater = less;
                less = rest;
            }
            return greater;
        }
    }

    /** A ROAD as told; one without stations is none. */
    private static final class Road {
        int tank;
        int has;
        int stopPence;
        int stopMinutes;
        int stuck;
        int places;
        int roads;
        int pumps;
        int stations;
        int receipts;
        /** From PLACE to PLACE, both ways; 0 pints: no road. */
        final int[] pints = new int[PLACES * PLACES];
        final int[] minutes = new int[PLACES * PLACES];
        /** FIRST prices by PLACES; 0: no pump. */
        final int[] first = new int[PLACES];
        /** 0: no second price. */
        final int[] second = new int[PLACES];
        final int[] shut = new int[PLACES];
        final int[] way = new int[STATIONS];
        /** Pints from station 0 to each. */
        final int[] upTo = new int[STATIONS];
        final int[] receiptPlace = new int[RECEIPTS];
        final int[] receiptPence = new int[RECEIPTS];

        void clear() {
            tank = 0;
            has = 0;
            stopPence = 0;
            stopMinutes = 0;
            stuck = 0;
            places = 0;
            roads = 0;
            pumps = 0;
            stations = 0;
            receipts = 0;
            Arrays.fill(pints, 0);
            Arrays.fill(minutes, 0);
            Arrays.fill(first, 0);
            Arrays.fill(second, 0);
            Arrays.fill(shut, 0);
        }

        void addRoad(int a, int b, int newPints, int newMinutes) {
            pints[a * PLACES + b] = newPints;
            pints[b * PLACES + a] = newPints;
            minutes[a * PLACES + b] = newMinutes;
            minutes[b * PLACES + a] = newMinutes;
            roads++;
        }

        boolean isTold() {
            return stations > 0;
        }

        boolean isPlace(int place) {
            return place >= 0 && place < places;
        }

        boolean isStation(int i) {
            return i >= 0 && i < stations;
        }

        /** A station but the last one. */
        boolean isLeft(int i) {
            return i >= 0 && i < stations - 1;
        }

        boolean isLevel(int level) {
            return level >= 0 && level <= tank;
        }

        boolean isRoad(int a, int b) {
            return pintsOf(a, b) > 0;
        }

        int pintsOf(int a, int b) {
            return pints[a * PLACES + b];
        }

        int minutesOf(int a, int b) {
            return minutes[a * PLACES + b];
        }

        int start() {
            return way[0];
        }

        int goal() {
            return stations > 0 ? way[stations - 1] : way[0];
        }

        int legPints(int i) {
            return upTo[i + 1] - upTo[i];
        }

        int legMinutes(int i) {
            return minutesOf(way[i], way[i + 1]);
        }

        int legsPints(int i, int j) {
            return upTo[j] - upTo[i];
        }

        int lastReached(int from, int level) {
            int last = from;
            for (int i = from; i < stations; i++) {
                if (upTo[i] - upTo[from] <= level) {
                    last = i;
                }
            }
            return last;
        }

        boolean hasPumpAt(int i) {
            return first[way[i]] > 0;
        }

        /** A price of a station's pump, 0 if there is none such. */
        int priceAt(int i, boolean dear) {
            return dear ? second[way[i]] : first[way[i]];
        }

        int sizeOf(int what) {
            switch (what) {
                case 0:
                    return tank;
                case 1:
                    return has;
                case 2:
                    return stopPence;
                case 3:
                    return stopMinutes;
                case 4:
                    return stuck;
                case 5:
                    return places;
                case 6:
                    return roads;
                case 7:
                    return pumps;
                case 8:
                    return stations;
                case 9:
                    return receipts;
                default:
                    return NONE;
            }
        }
    }

    /** Reads THE TEXT of a ROAD from the left, one TOKEN ahead, up to the first FAULT. */
    private static final class Reader {
        private static final int FORM = 1;
        private static final int UNTOLD = 2;
        private static final int AGAIN = 3;
        private static final int BOUNDS = 4;
        private static final int MANY = 5;
        private static final int LACKS = 6;
        private static final int UNFIT = 7;

        private static final int END = 0;
        private static final int WORD = 1;
        private static final int WHOLE = 2;
        private static final int SIGN = 3;
        private static final int BROKEN = 4;

        private static final int LETTERS = 8;
        private static final int DIGITS = 3;

        int fault;
        int faultPlace;
        private byte[] text = new byte[0];
        private int end;
        private Road road = new Road();
        /** The TOKEN looked at: its kind, where it begins, where it has ended. */
        private int kind;
        private int from;
        private int to;
        /** The WHOLE that was read last. */
        private int value;
        private final int[] nameFrom = new int[PLACES];
        private final int[] nameTo = new int[PLACES];

        /** Whether the first n bytes are a ROAD without FAULTS; it stands in the given one then. */
        boolean readRoad(byte[] bytes, int n, Road into) {
            text = bytes;
            end = n;
            road = into;
            road.clear();
            fault = 0;
            faultPlace = NONE;
            to = 0;
            lookOn();
            // Each LINE takes more than a byte, so there are fewer of them than bytes.
            for (int line = 0; line <= end; line++) {
                if (!readLine()) {
                    return false;
                }
                if (kind == END) {
                    return road.isTold() || failWith(LACKS);
                }
                if (!passSign(';')) {
                    return false;
                }
            }
            return failWith(FORM);
        }

        private boolean readLine() {
            if (isWord("car")) {
                return road.tank > 0 ? failWith(AGAIN) : readCar();
            }
            if (!isWord("place") && !isWord("road") && !isWord("pump") && !isWord("way") && !isWord("receipt")) {
                return failWith(FORM);
            }
            if (road.tank == 0) {
                return failWith(LACKS);
            }
            if (isWord("place")) {
                return road.places >= PLACES ? failWith(MANY) : readPlace();
            }
            if (isWord("road")) {
                return road.roads >= ROADS ? failWith(MANY) : readRoadBetween();
            }
            if (isWord("pump")) {
                return road.pumps >= PUMPS ? failWith(MANY) : readPump();
            }
            if (isWord("way")) {
                return road.isTold() ? failWith(AGAIN) : readWay();
            }
            return road.receipts >= RECEIPTS ? failWith(MANY) : readReceipt();
        }

        private boolean readCar() {
            lookOn();
            if (!passWord("tank") || !passWhole(1, TANK)) {
                return false;
            }
            int tank = value;
            if (!passWord("has") || !passWhole(0, tank)) {
                return false;
            }
            road.has = value;
            if (!passWord("stop") || !passWhole(0, 99)) {
                return false;
            }
            road.stopPence = value;
            if (!passSign(',') || !passWhole(0, 60)) {
                return false;
            }
            road.stopMinutes = value;
            if (!passWord("stuck") || !passWhole(0, 999)) {
                return false;
            }
            road.stuck = value;
            road.tank = tank;
            return true;
        }

        private boolean readPlace() {
            lookOn();
            if (!isName()) {
                return failWith(FORM);
            }
            if (placeNamed() != NONE) {
                return failWith(AGAIN);
            }
            nameFrom[road.places] = from;
            nameTo[road.places] = to;
            road.places++;
            lookOn();
            return true;
        }

        private boolean readRoadBetween() {
            lookOn();
            if (!isToldName()) {
                return false;
            }
            int a = placeNamed();
            lookOn();
            if (!isToldName()) {
                return false;
            }
            int b = placeNamed();
            if (a == b || road.isRoad(a, b)) {
                return failWith(AGAIN);
            }
            lookOn();
            if (!passWord("takes") || !passWhole(1, 40)) {
                return false;
            }
            int pints = value;
            if (!passWord("minutes") || !passWhole(0, 99)) {
                return false;
            }
            road.addRoad(a, b, pints, value);
            return true;
        }

        private boolean readPump() {
            lookOn();
            if (!isToldName()) {
                return false;
            }
            int place = placeNamed();
            if (road.first[place] > 0) {
                return failWith(AGAIN);
            }
            lookOn();
            if (!passWord("price") || !passWhole(1, 99)) {
                return false;
            }
            road.first[place] = value;
            if (isWord("or")) {
                lookOn();
                int at = from;
                if (!passWhole(1, 99)) {
                    return false;
                }
                if (value == road.first[place]) {
                    return failAt(AGAIN, at);
                }
                road.second[place] = value;
            }
            if (!passWord("shut") || !passWhole(0, 9)) {
                return false;
            }
            road.shut[place] = value;
            road.pumps++;
            return true;
        }

        private boolean readWay() {
            int count = 0;
            boolean more = true;
            for (int i = 0; more && i <= STATIONS; i++) {
                lookOn();
                if (!isToldName()) {
                    return false;
                }
                if (i >= STATIONS) {
                    return failWith(MANY);
                }
                int place = placeNamed();
                if (i > 0 && !road.isRoad(road.way[i - 1], place)) {
                    return failWith(UNFIT);
                }
                road.way[i] = place;
                road.upTo[i] = i > 0 ? road.upTo[i - 1] + road.pintsOf(road.way[i - 1], place) : 0;
                count++;
                lookOn();
                more = isSign(',');
            }
            if (count == 1 && (kind == END || isSign(';'))) {
                return failWith(LACKS);
            }
            road.stations = count;
            return true;
        }

        private boolean readReceipt() {
            lookOn();
            if (!isToldName()) {
                return false;
            }
            int place = placeNamed();
            if (road.first[place] == 0) {
                return failWith(UNFIT);
            }
            lookOn();
            if (!passWhole(1, 999)) {
                return false;
            }
            road.receiptPlace[road.receipts] = place;
            road.receiptPence[road.receipts] = value;
            road.receipts++;
            return true;
        }

        private boolean failWith(int number) {
            return failAt(number, from);
        }

        private boolean failAt(int number, int place) {
            fault = number;
            faultPlace = place;
            return false;
        }

        /** The next TOKEN becomes the one looked at; a run too long for a TOKEN begins none. */
        private void lookOn() {
            from = to;
            while (from < end && text[from] == ' ') {
                from++;
            }
            if (from >= end) {
                to = from;
                kind = END;
                return;
            }
            int letters = runLength('a', 'z');
            int digits = runLength('0', '9');
            boolean isSign = text[from] == ';' || text[from] == ',';
            to = from + Math.max(1, letters + digits);
            if (letters > 0) {
                kind = letters <= LETTERS ? WORD : BROKEN;
            } else if (digits > 0) {
                kind = digits <= DIGITS ? WHOLE : BROKEN;
            } else {
                kind = isSign ? SIGN : BROKEN;
            }
        }

        /** How many bytes within two bounds stand together from here on. */
        private int runLength(char least, char most) {
            int at = from;
            while (at < end && text[at] >= least && text[at] <= most) {
                at++;
            }
            return at - from;
        }

        private boolean isSign(char sign) {
            return kind == SIGN && text[from] == sign;
        }

        private boolean isWord(String word) {
            if (kind != WORD || to - from != word.length()) {
                return false;
            }
            for (int i = 0; i < word.length(); i++) {
                if (text[from + i] != word.charAt(i)) {
                    return false;
                }
            }
            return true;
        }

        private boolean passSign(char sign) {
            if (!isSign(sign)) {
                return failWith(FORM);
            }
            lookOn();
            return true;
        }

        private boolean passWord(String word) {
            if (!isWord(word)) {
                return failWith(FORM);
            }
            lookOn();
            return true;
        }

        private boolean passWhole(int least, int most) {
            if (kind != WHOLE) {
                return failWith(FORM);
            }
            value = 0;
            for (int at = from; at < to; at++) {
                value = value * 10 + text[at] - '0';
            }
            if (value < least || value > most) {
                return failWith(BOUNDS);
            }
            lookOn();
            return true;
        }

        private boolean isName() {
            return kind == WORD && !isWord("car") && !isWord("place") && !isWord("road") && !isWord("pump")
                    && !isWord("way") && !isWord("receipt") && !isWord("or");
        }

        private boolean isToldName() {
            if (!isName()) {
                return failWith(FORM);
            }
            return placeNamed() != NONE || failWith(UNTOLD);
        }

        /** The PLACE whose NAME is looked at, or NONE. */
        private int placeNamed() {
            for (int place = 0; place < road.places; place++) {
                if (isSameName(place)) {
                    return place;
                }
            }
            return NONE;
        }

        private boolean isSameName(int place) {
            int length = nameTo[place] - nameFrom[place];
            if (length != to - from) {
                return false;
            }
            for (int i = 0; i < length; i++) {
                if (text[nameFrom[place] + i] != text[from + i]) {
                    return false;
                }
            }
            return true;
        }
    }

    /** What drivers and PLANS share: rows of what lies ahead, by the pints one has. */
    private static final class Levels {
        private Levels() {
        }

        /** From what lies ahead on coming to the next station to what does on leaving this one. */
        static void leave(long[] ahead, int tank, int leg, long stuck) {
            for (int level = tank; level >= 0; level--) {
                ahead[level] = level >= leg ? ahead[level - leg] : stuck;
            }
        }

        /** By pints on coming, with how many one leaves at least expense, the fewest such. */
        static void choose(long[] leaving, int tank, long price, long stop, int[] choice) {
            int best = tank;
            for (int level = tank; level >= 0; level--) {
                long bought = stop + price * (best - level) + leaving[best];
                choice[level] = bought < leaving[level] ? best : level;
                if (leaving[level] + price * level <= leaving[best] + price * best) {
                    best = level;
                }
            }
        }

        /** What lies ahead if one comes with so many pints and leaves with so many. */
        static long spend(long[] leaving, int level, int choice, long price, long stop) {
            return leaving[choice] + price * (choice - level) + (choice > level ? stop : 0);
        }
    }

    /** The PLAN that is told, and the best ones there are. */
    private static final class Plans {
        static final int STOPS = 9;

        /** More than any PLAN costs. */
        private static final long CANNOT = 1L << 40;

        final int[] planned = new int[STATIONS];
        private final long[] ahead = new long[LEVELS];
        private final int[][] choices = new int[STATIONS][LEVELS];
        /** What lies ahead with at most so many stops. */
        private final long[][] byStops = new long[STOPS + 1][LEVELS];

        void forget() {
            Arrays.fill(planned, 0);
        }

        /** The first station where the PLAN can't be, or NO. */
        int failsAt(Road road) {
            int level = road.has;
            for (int i = 0; i < road.stations - 1; i++) {
                level += planned[i];
                if ((planned[i] > 0 && !road.hasPumpAt(i)) || level > road.tank || level < road.legPints(i)) {
                    return i;
                }
                level -= road.legPints(i);
            }
            return NO;
        }

        int pence(Road road) {
            int sum = 0;
            for (int i = 0; i < road.stations - 1; i++) {
                sum += planned[i] > 0 ? planned[i] * road.priceAt(i, false) + road.stopPence : 0;
            }
            return sum;
        }

        int minutes(Road road) {
            int sum = 0;
            for (int i = 0; i < road.stations - 1; i++) {
                sum += road.legMinutes(i) + (planned[i] > 0 ? road.stopMinutes : 0);
            }
            return sum;
        }

        /** CHEAPEST, the pump of one station shut, or of none. */
        int leastCost(Road road, int shutStation) {
            look(road, shutStation);
            return answer(ahead[road.has]);
        }

        private static int answer(long cost) {
            return cost >= CANNOT ? NO : (int) cost;
        }

        private void look(Road road, int shutStation) {
            Arrays.fill(ahead, 0);
            for (int i = road.stations - 2; i >= 0; i--) {
                Levels.leave(ahead, road.tank, road.legPints(i), CANNOT);
                int[] choice = choices[i];
                if (i != shutStation && road.hasPumpAt(i)) {
                    buyBest(road, i, choice);
                } else {
                    buyNothing(choice);
                }
            }
        }

        private void buyBest(Road road, int i, int[] choice) {
            int price = road.priceAt(i, false);
            Levels.choose(ahead, road.tank, price, road.stopPence, choice);
            for (int level = 0; level <= road.tank; level++) {
                ahead[level] = Levels.spend(ahead, level, choice[level], price, road.stopPence);
            }
        }

        private static void buyNothing(int[] choice) {
            for (int level = 0; level < choice.length; level++) {
                choice[level] = level;
            }
        }

        int cheapestPints(Road road, int station) {
            if (leastCost(road, NONE) == NO) {
                return NO;
            }
            int level = levelOnComing(road, station);
            return choices[station][level] - level;
        }

        int cheapestRest(Road road) {
            if (leastCost(road, NONE) == NO) {
                return NO;
            }
            return levelOnComing(road, road.stations - 1);
        }

        /** With how many pints CHEAPEST, which can be and has just been looked for, comes to a station. */
        private int levelOnComing(Road road, int station) {
            int level = road.has;
            for (int i = 0; i < station; i++) {
                level = Math.max(0, choices[i][level] - road.legPints(i));
            }
            return level;
        }

        int worstGap(Road road) {
            if (leastCost(road, NONE) == NO) {
                return NONE;
            }
            int worst = NONE;
            int greatest = NONE;
            for (int i = 0; i < road.stations - 1; i++) {
                if (road.hasPumpAt(i)) {
                    int cost = leastCost(road, i);
                    if (cost == NO) {
                        return i;
                    }
                    if (cost > greatest) {
                        greatest = cost;
                        worst = i;
                    }
                }
            }
            return worst;
        }

        int leastWithin(Road road, int stops) {
            lookByStops(road);
            return answer(byStops[stops][road.has]);
        }

        int fewestStops(Road road) {
            lookByStops(road);
            for (int stops = 0; stops <= STOPS; stops++) {
                if (byStops[stops][road.has] < CANNOT) {
                    return stops;
                }
            }
            return NO;
        }

        private void lookByStops(Road road) {
            for (int stops = 0; stops <= STOPS; stops++) {
                Arrays.fill(byStops[stops], 0);
            }
            for (int i = road.stations - 2; i >= 0; i--) {
                for (int stops = 0; stops <= STOPS; stops++) {
                    Levels.leave(byStops[stops], road.tank, road.legPints(i), CANNOT);
                }
                if (road.hasPumpAt(i)) {
                    // From the most stops down, since a row needs the one below as it was on leaving.
                    for (int stops = STOPS; stops > 0; stops--) {
                        stopHere(road, road.priceAt(i, false), byStops[stops], byStops[stops - 1]);
                    }
                }
            }
        }

        private static void stopHere(Road road, int price, long[] row, long[] oneStopLess) {
            int best = road.tank;
            for (int level = road.tank; level >= 0; level--) {
                long bought = road.stopPence + (long) price * (best - level) + oneStopLess[best];
                row[level] = Math.min(CANNOT, Math.min(row[level], bought));
                if (oneStopLess[level] + (long) price * level < oneStopLess[best] + (long) price * best) {
                    best = level;
                }
            }
        }

        int leastBeginning(Road road) {
            look(road, NONE);
            for (int level = 0; level <= road.tank; level++) {
                if (ahead[level] < CANNOT) {
                    return level;
                }
            }
            return NO;
        }
    }

    /** DRIVERS by RULES, and the best there can be. */
    private static final class Drivers {
        static final int FULL = 0;
        private static final int CHEAP = 1;
        private static final int LATE = 2;
        /** No RULE that is told: buys what makes the MEAN least. */
        static final int BEST = 4;

        /** Tenths for SHUT, halves for two prices. */
        private static final int PARTS = 20;

        /** Where the latest travel was STUCK, or NO. */
        int stuckStation;
        private final Draws draws = new Draws();
        private final long[] ahead = new long[LEVELS];
        private final int[] choice = new int[LEVELS];
        private final int[] dearChoice = new int[LEVELS];
        /** All that lies ahead is told as a multiple of one by this. */
        private long scale;

        int pintsByRule(Road road, int rule, int i, int level, int price) {
            switch (rule) {
                case FULL:
                    return road.tank - level;
                case CHEAP:
                    return pintsTo(road, i, nextCheaper(road, i, price), level);
                case LATE:
                    return pintsTo(road, i, nextPump(road, i), level);
                default:
                    return 2 * level < road.tank ? road.tank - level : 0;
            }
        }

        /** What lacks to get to a later station, or, if a tank isn't enough for it, to fill up. */
        private static int pintsTo(Road road, int i, int j, int level) {
            int legs = road.upTo[j] - road.upTo[i];
            return legs <= road.tank ? Math.max(0, legs - level) : road.tank - level;
        }

        private static int nextCheaper(Road road, int i, int price) {
            for (int j = i + 1; j < road.stations - 1; j++) {
                if (road.hasPumpAt(j) && road.priceAt(j, false) < price) {
                    return j;
                }
            }
            return road.stations - 1;
        }

        private static int nextPump(Road road, int i) {
            for (int j = i + 1; j < road.stations - 1; j++) {
                if (road.hasPumpAt(j)) {
                    return j;
                }
            }
            return road.stations - 1;
        }

        /** Pence with all pumps open at FIRST prices, or NO: STUCK. */
        int travelOpen(Road road, int rule) {
            return travel(road, rule, false);
        }

        /** Pence of a RUN, or NO: STUCK. */
        int travelDrawn(Road road, int rule, int seed) {
            draws.seed = seed;
            return travel(road, rule, true);
        }

        private int travel(Road road, int rule, boolean drawn) {
            stuckStation = NO;
            int level = road.has;
            int pence = 0;
            for (int i = 0; i < road.stations - 1; i++) {
                int price = drawn ? draws.priceSeen(road, road.way[i]) : road.priceAt(i, false);
                int pints = price > 0 ? pintsByRule(road, rule, i, level, price) : 0;
                pence += pints > 0 ? pints * price + road.stopPence : 0;
                level += pints - road.legPints(i);
                if (level < 0) {
                    stuckStation = i;
                    return NO;
                }
            }
            return pence;
        }

        void reckonMean(Road road, int rule, Fraction into) {
            lookDownTo(road, rule, false, 0);
            into.become(ahead[road.has], scale);
        }

        void reckonOdds(Road road, int rule, Fraction into) {
            lookDownTo(road, rule, true, 0);
            into.become(ahead[road.has], scale);
        }

        int ruleOfLeastMean(Road road) {
            int best = 0;
            long least = 0;
            for (int rule = 0; rule < RULES; rule++) {
                lookDownTo(road, rule, false, 0);
                // All RULES end with the same scale, so what it multiplies compares.
                if (rule == 0 || ahead[road.has] < least) {
                    least = ahead[road.has];
                    best = rule;
                }
            }
            return best;
        }

        int bestPints(Road road, int station, int level, int price) {
            lookDownTo(road, BEST, false, station + 1);
            leaveStation(road, station, false);
            chooseAll(road, BEST, station, price, scale, choice);
            return choice[level] - level;
        }

        /** What lies ahead on coming to a station: chances to get through, or pence on the mean. */
        private void lookDownTo(Road road, int rule, boolean chances, int station) {
            scale = 1;
            Arrays.fill(ahead, chances ? 1 : 0);
            for (int i = road.stations - 2; i >= station; i--) {
                leaveStation(road, i, chances);
                if (road.hasPumpAt(i)) {
                    meetPump(road, rule, i, chances ? 0 : scale);
                    scale *= PARTS;
                }
            }
        }

        private void leaveStation(Road road, int i, boolean chances) {
            Levels.leave(ahead, road.tank, road.legPints(i), chances ? 0 : road.stuck * scale);
        }

        private void meetPump(Road road, int rule, int i, long penny) {
            int price = road.priceAt(i, false);
            int dear = road.priceAt(i, true) > 0 ? road.priceAt(i, true) : price;
            chooseAll(road, rule, i, price, penny, choice);
            chooseAll(road, rule, i, dear, penny, dearChoice);
            int shut = road.shut[road.way[i]];
            long stop = road.stopPence * penny;
            for (int level = 0; level <= road.tank; level++) {
                long one = Levels.spend(ahead, level, choice[level], price * penny, stop);
                long two = Levels.spend(ahead, level, dearChoice[level], dear * penny, stop);
                ahead[level] = 2 * shut * ahead[level] + (10 - shut) * (one + two);
            }
        }

        /** By pints on coming, with how many a driver leaves an open pump at this price. */
        private void chooseAll(Road road, int rule, int i, int price, long penny, int[] into) {
            if (rule == BEST) {
                Levels.choose(ahead, road.tank, price * penny, road.stopPence * penny, into);
                return;
            }
            for (int level = 0; level <= road.tank; level++) {
                into[level] = level + pintsByRule(road, rule, i, level, price);
            }
        }
    }

    /** DRAWS from a SEED. */
    private static final class Draws {
        int seed;

        private int next() {
            seed = (75 * seed + 74) % SEEDS;
            return seed;
        }

        /** The price that one sees who comes to a PLACE, or NO: no pump, or SHUT. */
        int priceSeen(Road road, int place) {
            int price = road.first[place];
            if (price == 0) {
                return NO;
            }
            boolean isShut = next() % 10 < road.shut[place];
            // A pump with two prices takes its second DRAW also when it is SHUT: nothing told excepts that.
            if (road.second[place] > 0 && next() % 2 == 1) {
                price = road.second[place];
            }
            return isShut ? NO : price;
        }
    }

    /** Ways by whatever roads. */
    private static final class Net {
        /** More than any way costs. */
        private static final int CANNOT = 1 << 28;
        /** No best way comes to a PLACE twice with as many pints. */
        private static final int ROUNDS = PLACES * LEVELS;

        private final int[][] coming = new int[PLACES][LEVELS];
        private final int[] going = new int[LEVELS];
        private final int[] level = new int[PLACES];

        /** THE NET by pence, or by minutes; NO if it can't be. */
        int least(Road road, boolean minutes) {
            for (int place = 0; place < road.places; place++) {
                Arrays.fill(coming[place], CANNOT);
            }
            coming[road.start()][road.has] = 0;
            boolean changed = true;
            for (int round = 0; changed && round < ROUNDS; round++) {
                changed = false;
                for (int place = 0; place < road.places; place++) {
                    stopAt(road, place, minutes);
                    changed = goOn(road, place, minutes) || changed;
                }
            }
            int best = CANNOT;
            for (int left = 0; left <= road.tank; left++) {
                best = Math.min(best, coming[road.goal()][left]);
            }
            return best == CANNOT ? NO : best;
        }

        /** From what it costs to come to a PLACE to what it costs to be there ready to go. */
        private void stopAt(Road road, int place, boolean minutes) {
            int[] row = coming[place];
            boolean hasPump = road.first[place] > 0;
            int price = minutes ? 0 : road.first[place];
            int stop = minutes ? road.stopMinutes : road.stopPence;
            int best = CANNOT;
            for (int pints = 0; pints <= road.tank; pints++) {
                going[pints] = row[pints];
                if (hasPump && best < CANNOT) {
                    going[pints] = Math.min(row[pints], best + price * pints + stop);
                }
                if (row[pints] < CANNOT) {
                    // Less what these pints would cost here, so that only pints on top of them are paid.
                    best = Math.min(best, row[pints] - price * pints);
                }
            }
        }

        private boolean goOn(Road road, int place, boolean minutes) {
            boolean changed = false;
            for (int next = 0; next < road.places; next++) {
                if (road.isRoad(place, next)) {
                    changed = goAlong(road, place, next, minutes ? road.minutesOf(place, next) : 0) || changed;
                }
            }
            return changed;
        }

        private boolean goAlong(Road road, int place, int next, int minutes) {
            boolean changed = false;
            int takes = road.pintsOf(place, next);
            int[] row = coming[next];
            for (int pints = takes; pints <= road.tank; pints++) {
                if (going[pints] < CANNOT && going[pints] + minutes < row[pints - takes]) {
                    row[pints - takes] = going[pints] + minutes;
                    changed = true;
                }
            }
            return changed;
        }

        /** With how many pints at most it can be at a PLACE; NO if it can't come there. */
        int mostPints(Road road, int goal) {
            Arrays.fill(level, NO);
            level[road.start()] = road.first[road.start()] > 0 ? road.tank : road.has;
            boolean changed = true;
            for (int round = 0; changed && round < ROUNDS; round++) {
                changed = false;
                for (int place = 0; place < road.places; place++) {
                    changed = fillNext(road, place) || changed;
                }
            }
            return level[goal];
        }

        private boolean fillNext(Road road, int place) {
            boolean changed = false;
            for (int next = 0; next < road.places; next++) {
                if (road.isRoad(place, next) && level[place] >= road.pintsOf(place, next)) {
                    int most = road.first[next] > 0 ? road.tank : level[place] - road.pintsOf(place, next);
                    if (most > level[next]) {
                        level[next] = most;
                        changed = true;
                    }
                }
            }
            return changed;
        }

        /** NEAR; NO if there is no way. */
        int nearest(Road road, int from, int goal) {
            Arrays.fill(level, CANNOT);
            level[from] = 0;
            for (int round = 0; round < PLACES; round++) {
                for (int place = 0; place < road.places; place++) {
                    nearNext(road, place);
                }
            }
            return level[goal] == CANNOT ? NO : level[goal];
        }

        private void nearNext(Road road, int place) {
            for (int next = 0; next < road.places; next++) {
                if (road.isRoad(place, next) && level[place] < CANNOT) {
                    level[next] = Math.min(level[next], level[place] + road.pintsOf(place, next));
                }
            }
        }
    }

    /** WAYS that FIT the RECEIPTS. */
    private static final class Receipts {
        int found;
        int could;
        int surely;
        /** Pints at the beginning, as bits, with which some WAY FITS. */
        long beginnings;
        final int[] picked = new int[PLACES];
        int pickedLength;
        private int wanted;
        private final int[] row = new int[PLACES];

        /** Looks at all WAYS in order; of those that FIT one may be picked by its number. */
        void search(Road road, int number) {
            found = 0;
            could = 0;
            surely = 0;
            beginnings = 0;
            pickedLength = 0;
            wanted = number;
            row[0] = road.start();
            extend(road, 1, 1 << road.start());
        }

        /** All WAYS that begin with so many PLACES of the row, those as bits; no PLACE twice keeps it low. */
        private void extend(Road road, int length, int visited) {
            int last = row[length - 1];
            if (last == road.goal()) {
                weigh(road, length, visited);
                return;
            }
            if (length >= PLACES) {
                return;
            }
            for (int next = 0; next < road.places; next++) {
                if (road.isRoad(last, next) && ((visited >> next) & 1) == 0) {
                    row[length] = next;
                    extend(road, length + 1, visited | (1 << next));
                }
            }
        }

        private void weigh(Road road, int length, int visited) {
            long fitting = fittingBeginnings(road, length);
            beginnings |= fitting;
            if (((fitting >> road.has) & 1) == 0) {
                return;
            }
            if (found == wanted) {
                System.arraycopy(row, 0, picked, 0, length);
                pickedLength = length;
            }
            surely = found == 0 ? visited : surely & visited;
            could |= visited;
            found++;
        }

        /** Pints at the beginning, as bits, with which the row FITS: reckoned from its end back. */
        private long fittingBeginnings(Road road, int length) {
            long all = (1L << (road.tank + 1)) - 1;
            long levels = all;
            int receipt = road.receipts - 1;
            for (int at = length - 1; at >= 0; at--) {
                while (receipt >= 0 && road.receiptPlace[receipt] == row[at]) {
                    levels = beforeReceipt(road, receipt, levels);
                    receipt--;
                }
                if (at > 0) {
                    levels = (levels << road.pintsOf(row[at - 1], row[at])) & all;
                }
            }
            return receipt < 0 ? levels : 0;
        }

        private static long beforeReceipt(Road road, int receipt, long levels) {
            int place = road.receiptPlace[receipt];
            int pence = road.receiptPence[receipt];
            return beforeBuying(pence, road.first[place], levels) | beforeBuying(pence, road.second[place], levels);
        }

        private static long beforeBuying(int pence, int price, long levels) {
            if (price == 0 || pence % price != 0) {
                return 0;
            }
            int pints = pence / price;
            return pints > TANK ? 0 : levels >> pints;
        }
    }

    /** The car NOW, what can be undone, IMAGES. */
    private static final class Journey {
        static final int PLACE = 0;
        static final int PINTS = 1;
        static final int PENCE = 2;
        static final int MINUTES = 3;
        static final int PRICE = 4;
        private static final int PAID = 5;
        static final int SEED = 6;
        private static final int PARTS = 7;
        private static final int KEPT = 12;
        static final int IMAGES = 3;
        private static final int WAITING = 10;

        final int[] now = new int[PARTS];
        int undoable;
        int pictured;
        /** A ring: where the latest that is kept stands. */
        private int latest;
        private final int[][] kept = new int[KEPT][PARTS];
        private final int[][] images = new int[IMAGES][PARTS];
        private final Draws draws = new Draws();

        void begin(Road road) {
            undoable = 0;
            pictured = 0;
            Arrays.fill(now, 0);
            now[PLACE] = road.start();
            now[PINTS] = road.has;
            seePump(road);
        }

        private void seePump(Road road) {
            draws.seed = now[SEED];
            now[PRICE] = draws.priceSeen(road, now[PLACE]);
            now[SEED] = draws.seed;
            now[PAID] = 0;
        }

        private void keep() {
            latest = (latest + 1) % KEPT;
            System.arraycopy(now, 0, kept[latest], 0, PARTS);
            undoable = Math.min(KEPT, undoable + 1);
        }

        void takeIn(Road road, int n) {
            keep();
            if (now[PAID] == 0) {
                now[PENCE] += road.stopPence;
                now[MINUTES] += road.stopMinutes;
                now[PAID] = 1;
            }
            now[PINTS] += n;
            now[PENCE] += n * now[PRICE];
        }

        boolean canGo(Road road, int place) {
            return road.isRoad(now[PLACE], place) && now[PINTS] >= road.pintsOf(now[PLACE], place);
        }

        void goTo(Road road, int place) {
            keep();
            now[PINTS] -= road.pintsOf(now[PLACE], place);
            now[MINUTES] += road.minutesOf(now[PLACE], place);
            now[PLACE] = place;
            seePump(road);
        }

        void stay(Road road) {
            keep();
            now[MINUTES] += WAITING;
            seePump(road);
        }

        void takeBack() {
            System.arraycopy(kept[latest], 0, now, 0, PARTS);
            latest = (latest + KEPT - 1) % KEPT;
            undoable--;
        }

        int picture() {
            System.arraycopy(now, 0, images[pictured], 0, PARTS);
            pictured++;
            return pictured - 1;
        }

        void returnTo(int image) {
            System.arraycopy(images[image], 0, now, 0, PARTS);
            undoable = 0;
        }

        /** The i-th PLACE to which the car can drive, or NONE. */
        int openPlace(Road road, int i) {
            int count = 0;
            for (int place = 0; place < road.places; place++) {
                if (canGo(road, place)) {
                    if (count == i) {
                        return place;
                    }
                    count++;
                }
            }
            return NONE;
        }
    }
}
