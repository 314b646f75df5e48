import java.nio.charset.StandardCharsets;

/** What the tests share: texts fed to an object, answers compared with those due. */
final class Told {
    static final String CAR = "car tank 10 has 4 stop 2,5 stuck 90;";
    static final String ROAD = CAR + "place home;place red;place lake;place coast;"
            + "road home red takes 3 minutes 10;road red lake takes 6 minutes 20;"
            + "road lake coast takes 5 minutes 15;road home lake takes 8 minutes 25;"
            + "pump home price 9 shut 0;pump red price 5 shut 5;pump lake price 7 or 3 shut 0;"
            + "way home,red,lake,coast;receipt red 45;receipt lake 7";

    private final String about;
    private int wrong;
    private int compared;

    Told(String about) {
        this.about = about;
    }

    static void feed(LastsToNext x, String text) {
        byte[] bytes = text.getBytes(StandardCharsets.ISO_8859_1);
        for (int at = 0; at < bytes.length; at += 20) {
            int[] numbers = new int[5];
            for (int i = 0; i < 20; i++) {
                int b = at + i < bytes.length ? bytes[at + i] & 255 : 32;
                numbers[i / 4] = numbers[i / 4] << 8 | b;
            }
            x.feed(numbers[0], numbers[1], numbers[2], numbers[3], numbers[4]);
        }
    }

    /** Feeds a text to an object whose tape is empty and lets it be the ROAD. */
    static int tell(LastsToNext x, String text) {
        feed(x, text);
        return x.road(text.length());
    }

    static LastsToNext of(String text) {
        LastsToNext x = new LastsToNext();
        if (tell(x, text) < 0) {
            throw new IllegalStateException("fault " + x.fault() + " at " + x.where() + " of: " + text);
        }
        return x;
    }

    /**
     * A way of PLACES a, b, .. in a row: of what follows the car a text is the pump there ("" none), a number the pints of
     * the next LEG; the LEGS have 10, 11, .. minutes.
     */
    static String row(String car, Object... parts) {
        StringBuilder places = new StringBuilder();
        StringBuilder roads = new StringBuilder();
        StringBuilder pumps = new StringBuilder();
        StringBuilder way = new StringBuilder();
        int count = 0;
        for (Object part : parts) {
            char name = (char) ('a' + count);
            if (part instanceof Integer) {
                roads.append(";road ").append((char) (name - 1)).append(' ').append(name).append(" takes ").append(part)
                        .append(" minutes ").append(9 + count);
                continue;
            }
            places.append(";place ").append(name);
            way.append(count == 0 ? ";way " : ",").append(name);
            if (!part.equals("")) {
                pumps.append(";pump ").append(name).append(" price ").append(part);
            }
            count++;
        }
        return "car " + car + places + roads + pumps + way;
    }

    void due(String call, long got, long want) {
        compared++;
        if (got != want) {
            wrong++;
            if (wrong <= 40) {
                System.out.println(about + ": " + call + " answered " + got + ", due is " + want);
            }
        }
    }

    void due(String call, boolean got, boolean want) {
        due(call, got ? 1 : 0, want ? 1 : 0);
    }

    /** A call that was just refused: its answer, and the number. */
    void refused(String call, long got, LastsToNext x, int number) {
        due(call, got, -1);
        due(call + ", trouble", x.trouble(), number);
    }

    void refused(String call, boolean got, LastsToNext x, int number) {
        due(call, got, false);
        due(call + ", trouble", x.trouble(), number);
    }

    void accepted(String call, long got, long want, LastsToNext x) {
        due(call, got, want);
        due(call + ", trouble", x.trouble(), 0);
    }

    /** The place that led() tells, -1 if it throws as it should. */
    static int led(LastsToNext x, int i) {
        try {
            return x.led(i);
        } catch (java.util.NoSuchElementException e) {
            return -1;
        }
    }

    void end() {
        System.out.println(about + ": " + compared + " answers, " + wrong + " not as due");
        if (compared == 0 || wrong != 0) {
            System.exit(1);
        }
    }
}
