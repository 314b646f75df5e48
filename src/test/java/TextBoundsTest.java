import java.util.List;

/** Promises 1 to 5 and Terms I: every bound that is named there, on both of its sides. */
public final class TextBoundsTest {
    private static final Told T = new Told("bounds of texts");
    private static final String CAR = "car tank 5 has 5 stop 0,0 stuck 7";
    private static final String AB = CAR + ";place a;place b;road a b takes 3 minutes 0";
    private static final int FIRST_DRAW = 74;
    private static final String PUMPED = AB + ";pump a price 6 shut 0";

    public static void main(String[] args) {
        wholes();
        tokens();
        blanks();
        names();
        counts();
        ways();
        leftmost();
        leastOfOnePlace();
        theTape();
        partOfTheTape();
        cutOff();
        whatStays();
        whatBegins();
        nothingIsLeft();
        faultAndWhere();
        T.end();
    }

    private static void fine(String text, int stations) {
        LastsToNext x = new LastsToNext();
        T.accepted("3 " + text, Told.tell(x, text), stations, x);
        T.due("4 " + text, x.fault(), 0);
        T.due("5 " + text, x.where(), -1);
    }

    private static void faulty(String text, int fault, int place) {
        LastsToNext x = new LastsToNext();
        T.refused("3 " + text, Told.tell(x, text), x, 4);
        T.due("4 " + text, x.fault(), fault);
        T.due("5 " + text, x.where(), place);
    }

    /** The place is where the last such part begins. */
    private static void faultyAt(String text, int fault, String at) {
        faulty(text, fault, text.lastIndexOf(at));
    }

    /** Terms I, 4: a WHOLE, # in a text that is a ROAD else: both bounds are within, what lies beside them isn't. */
    private static void bounds(String text, int least, int most) {
        int at = text.indexOf('#');
        fine(text.replace("#", "" + least), 2);
        fine(text.replace("#", "" + most), 2);
        if (least > 0) {
            faulty(text.replace("#", "" + (least - 1)), 4, at);
        }
        // Behind 999 comes no WHOLE at all.
        faulty(text.replace("#", "" + (most + 1)), most == 999 ? 1 : 4, at);
    }

    private static void wholes() {
        String rest = ";place a;place b;road a b takes 3 minutes 0;way a,b";
        bounds("car tank # has 0 stop 0,0 stuck 0" + rest, 1, 40);
        bounds("car tank 40 has # stop 0,0 stuck 0" + rest, 0, 40);
        bounds("car tank 1 has # stop 0,0 stuck 0" + rest, 0, 1);
        bounds("car tank 7 has # stop 0,0 stuck 0" + rest, 0, 7);
        bounds("car tank 5 has 5 stop #,0 stuck 0" + rest, 0, 99);
        bounds("car tank 5 has 5 stop 0,# stuck 0" + rest, 0, 60);
        bounds("car tank 5 has 5 stop 0,0 stuck #" + rest, 0, 999);
        bounds(CAR + ";place a;place b;road a b takes # minutes 0;way a,b", 1, 40);
        bounds(CAR + ";place a;place b;road a b takes 3 minutes #;way a,b", 0, 99);
        bounds(AB + ";pump a price # shut 0;way a,b", 1, 99);
        bounds(AB + ";pump a price # or 50 shut 0;way a,b", 1, 99);
        bounds(AB + ";pump a price 50 or # shut 0;way a,b", 1, 99);
        bounds(AB + ";pump a price 50 shut #;way a,b", 0, 9);
        bounds(AB + ";pump a price 50 or 51 shut #;way a,b", 0, 9);
        bounds(PUMPED + ";way a,b;receipt a #", 1, 999);
        // 999 is no bound of its own anywhere else: it is refused as a number, not as a form.
        faultyAt("car tank 999", 4, "999");
        faultyAt("car tank 5 has 999", 4, "999");
        faultyAt(CAR + ";place a;place b;road a b takes 999", 4, "999");
    }

    private static void tokens() {
        fine("car tank 05 has 005 stop 000,00 stuck 0;place a;place b;road a b takes 003 minutes 00;way a,b", 2);
        faultyAt("car tank 0005", 1, "0005");
        faultyAt("car tank 5 has 0000", 1, "0000");
        faultyAt(CAR.replace("stuck 7", "stuck 0007"), 1, "0007");
        faultyAt(PUMPED + ";receipt a 1000", 1, "1000");
        // WORDS of 1 to 8 letters.
        fine(CAR + ";place a;place zzzzzzzz;road a zzzzzzzz takes 3 minutes 0;way zzzzzzzz,a", 2);
        faultyAt(CAR + ";place zzzzzzzzz", 1, "zzzzzzzzz");
        faultyAt(CAR + ";placesplaces a", 1, "placesplaces");
        faultyAt(CAR + ";place a;place b;road a bbbbbbbbb", 1, "bbbbbbbbb");
        faultyAt("cartankhas 5", 1, "cartankhas");
        // Bytes beside those of TOKENS begin none: the ones next to a, z, 0, 9, blank, comma and semicolon, and the last ones.
        for (int b : new int[] {0, 9, 10, 13, 31, 33, '+', '-', '.', '/', ':', '<', '@', 'A', 'Z', '`', '{', 127, 128, 160, 225, 255}) {
            faulty((char) b + CAR, 1, 0);
            faulty(CAR + (char) b, 1, CAR.length());
            faulty(AB + ";way a" + (char) b + ",b", 1, AB.length() + 6);
            faulty("car tank 5" + (char) b, 1, 10);
        }
        // Letters and digits part by themselves, signs too; two signs are two TOKENS.
        fine("car tank5has5stop0,0stuck7;place a;place b;road a b takes3minutes0;way a,b", 2);
        faulty(AB + ";;way a,b", 1, AB.length() + 1);
        faulty(AB + ";way a,,b", 1, AB.length() + 7);
        faulty("car tank 5 has 5 stop 0,,0", 1, 24);
        faultyAt(CAR + ";place a1", 1, "1");
        faultyAt("car tank 5x", 1, "x");
    }

    private static void blanks() {
        fine("     " + AB + ";way a,b", 2);
        fine(AB + ";way a,b      ", 2);
        fine(AB.replace(" ", "   ").replace(";", " ; ") + " ; way  a  ,  b", 2);
        // They part TOKENS: half a word is another one, half a WHOLE too.
        faulty("car ta nk 5", 1, 4);
        faulty("c ar", 1, 0);
        faulty("car tank 1 0", 1, 11);
        faulty(AB + ";w ay a,b", 1, AB.length() + 1);
        // The end lies behind them.
        faulty("     ", 1, 5);
        faulty("car     ", 1, 8);
        faulty(AB + ";way a   ", 6, AB.length() + 9);
        faulty(AB + "   ", 6, AB.length() + 3);
    }

    private static void names() {
        for (String word : new String[] {"car", "place", "road", "pump", "way", "receipt", "or"}) {
            faultyAt(CAR + ";place " + word, 1, word);
        }
        // All other WORDS are NAMES, those of the LINES, too.
        for (String word : new String[] {"tank", "has", "stop", "stuck", "takes", "minutes", "price", "shut", "cars", "ca", "o", "orr", "ways", "roa"}) {
            fine(CAR + ";place " + word + ";place b;road " + word + " b takes 3 minutes 0;pump " + word + " price 1 shut 0;way b," + word
                    + ";receipt " + word + " 1", 2);
        }
        // Told once.
        faultyAt(CAR + ";place a;place a", 3, "a");
        faultyAt(AB + ";place a", 3, "a");
        faultyAt(AB + ";way a,b;place b", 3, "b");
        // Like beginnings, like ends are no like NAMES.
        fine(CAR + ";place ab;place abc;place b;road ab abc takes 3 minutes 0;way abc,ab", 2);
        // Ahead of its use.
        faultyAt(CAR + ";place a;road a b takes 3 minutes 0;place b", 2, "b takes");
        faultyAt(CAR + ";place a;road b a takes 3 minutes 0;place b", 2, "b a");
        faultyAt(CAR + ";pump a price 1 shut 0;place a", 2, "a price");
        faultyAt(AB + ";way a,c;place c", 2, "c;");
        faultyAt(AB + ";way c,a;place c", 2, "c,a");
        faultyAt(PUMPED + ";receipt c 1;place c", 2, "c 1");
        // A WORD with another first letter is another one.
        for (String line : new String[] {"bar tank 5", "dar"}) {
            faulty(line, 1, 0);
        }
        for (String word : new String[] {"glace a", "toad a b", "jump a", "bay a,b", "deceipt a 1"}) {
            faulty(PUMPED + ";" + word, 1, PUMPED.length() + 1);
        }
        faultyAt("car bank", 1, "bank");
        faultyAt(AB + ";pump a price 6 ar 7", 1, "ar");
        // A WORD of a LINE is at its place alone.
        faultyAt("car tank 5 had", 1, "had");
        faultyAt("car tank 5 has 5 stops", 1, "stops");
        faultyAt("car tank 5 has 5 stop 0,0 stick", 1, "stick");
        faultyAt(CAR + ";place a;place b;road a b take", 1, "take");
        faultyAt(CAR + ";place a;place b;road a b takes 3 minute", 1, "minute");
        faultyAt(AB + ";pump a prices", 1, "prices");
        faultyAt(AB + ";pump a price 3 shuts", 1, "shuts");
    }

    private static String places(int n) {
        StringBuilder text = new StringBuilder(CAR);
        for (int i = 0; i < n; i++) {
            text.append(";place ").append((char) ('a' + i));
        }
        return text.toString();
    }

    private static String roads(int n) {
        StringBuilder text = new StringBuilder(places(9));
        int told = 0;
        for (int a = 0; a < 9; a++) {
            for (int b = a + 1; b < 9; b++) {
                if (told < n) {
                    text.append(";road ").append((char) ('a' + a)).append(' ').append((char) ('a' + b)).append(" takes 1 minutes 0");
                    told++;
                }
            }
        }
        return text.toString();
    }

    private static String pumps(String before, int n) {
        StringBuilder text = new StringBuilder(before);
        for (int i = 0; i < n; i++) {
            text.append(";pump ").append((char) ('a' + i)).append(" price 1 shut 0");
        }
        return text.toString();
    }

    /** Terms I: up to 9 places, 14 roads, 8 pumps, 5 receipts; one more is MANY at its first WORD, whatever comes behind that. */
    private static void counts() {
        fine(places(9) + ";road a i takes 3 minutes 0;way a,i", 2);
        for (String more : new String[] {"place", "place j", "place a", "place or", "place 7"}) {
            faultyAt(places(9) + ";" + more, 5, "place");
        }
        fine(roads(14) + ";way a,b", 2);
        for (String more : new String[] {"road", "road d e takes 1 minutes 0", "road a b", "road z z", "road a a"}) {
            faultyAt(roads(14) + ";" + more, 5, "road");
        }
        faultyAt(roads(13) + ";road a b takes 1 minutes 0", 3, "b takes");
        String eight = pumps(places(9) + ";road a b takes 3 minutes 0", 8);
        fine(eight + ";way a,b", 2);
        for (String more : new String[] {"pump", "pump i price 1 shut 0", "pump a", "pump z"}) {
            faultyAt(eight + ";" + more, 5, "pump");
        }
        faultyAt(pumps(places(9), 7) + ";pump a", 3, "a");
        String five = PUMPED + ";receipt a 1".repeat(5);
        fine(five + ";way a,b", 2);
        for (String more : new String[] {"receipt", "receipt a 1", "receipt b 1", "receipt z"}) {
            faultyAt(five + ";" + more, 5, "receipt");
        }
        // All there is room for at once.
        String full = pumps(roads(14), 8) + ";way a,b,a,c,a,d,a,e,a" + ";receipt a 1".repeat(5);
        fine(full, 9);
        LastsToNext x = Told.of(full);
        int[] sizes = {5, 5, 0, 0, 7, 9, 14, 8, 9, 5};
        for (int what = 0; what < sizes.length; what++) {
            T.due("56 the fullest ROAD, " + what, x.size(what), sizes[what]);
        }
        T.due("3 the fullest ROAD is no longer than THE TAPE", full.length() <= 800, true);
    }

    /** Terms I: a way of 2 to 9 PLACES, told once, by roads; a car once, ahead of all others. */
    private static void ways() {
        fine(AB + ";way a,b", 2);
        fine(AB + ";way b,a,b,a,b,a,b,a,b", 9);
        faulty(AB + ";way a", 6, AB.length() + 6);
        faulty(AB + ";way a;place c", 6, AB.length() + 6);
        faulty(AB + ";way b ;", 6, AB.length() + 7);
        faultyAt(AB + ";way b,a,b,a,b,a,b,a,b,a", 5, "a");
        faultyAt(AB + ";way b,a,b,a,b,a,b,a,b,a,b,a", 5, "a,b,a");
        faultyAt(AB + ";way a,b;way a,b", 3, "way");
        faultyAt(AB + ";way a,b;way", 3, "way");
        faultyAt(AB + ";way a,b;way z", 3, "way");
        faultyAt(AB + ";way a,b;car", 3, "car");
        faultyAt(CAR + ";" + CAR, 3, "car");
        faultyAt("car tank 1 has 0 stop 0,0 stuck 0;car", 3, "car");
        faultyAt("car tank 40 has 0 stop 0,0 stuck 0;car", 3, "car");
        faulty(AB, 6, AB.length());
        faulty(CAR, 6, CAR.length());
        for (String line : new String[] {"place a", "road a b", "pump a", "way a,b", "receipt a", "place", "road", "pump", "way", "receipt"}) {
            faulty(line + ";" + CAR, 6, 0);
            faulty("   " + line, 6, 3);
        }
        faultyAt(AB + ";way a,a", 7, "a");
        faultyAt(AB + ";place c;way a,b,c", 7, "c");
        faultyAt(AB + ";place c;way c,a", 7, "a");
        faultyAt(AB + ";place c;road b c takes 1 minutes 0;way a,c", 7, "c");
        faultyAt(PUMPED + ";receipt b 1", 7, "b 1");
        // A road goes both ways; unlike, once in whatever order.
        fine(AB + ";way b,a", 2);
        faultyAt(CAR + ";place a;road a a", 3, "a");
        faultyAt(AB + ";road a b", 3, "b");
        faultyAt(AB + ";road b a", 3, "a");
        // One price or two, unlike ones; a pump once for each PLACE.
        faultyAt(AB + ";pump a price 6 or 6", 3, "6");
        faultyAt(AB + ";pump a price 6 or 06", 3, "06");
        faultyAt(AB + ";pump a price 6 or 7 or 8", 1, "or");
        faultyAt(PUMPED + ";pump a", 3, "a");
        fine(PUMPED + ";pump b price 6 or 7 shut 0;way a,b", 2);
    }

    /** Terms I: the first FAULT that is met from the left: of any two lines the one that stands ahead. */
    private static void leftmost() {
        String base = PUMPED + ";place c";
        String[] lines = {";foo", ";road a z", ";place a", ";pump b price 0", ";way a;", ";way a,c", ";receipt b 1", ";car", ";pump b price 6 or 6", ";A"};
        String[] at = {"foo", "z", "a", "0", ";", "c", "b", "car", "6", "A"};
        int[] faults = {1, 2, 3, 4, 6, 7, 7, 3, 3, 1};
        for (int i = 0; i < lines.length; i++) {
            int place = base.length() + lines[i].lastIndexOf(at[i]);
            faulty(base + lines[i], faults[i], place);
            for (String other : lines) {
                faulty(base + lines[i] + other, faults[i], place);
            }
            faulty(base + lines[i] + ";way a,b", faults[i], place);
        }
        String many = base + ";receipt a 6".repeat(5);
        for (String other : lines) {
            faulty(many + ";receipt" + other, 5, many.length() + 1);
        }
    }

    /** Terms I: of one place the least number. */
    private static void leastOfOnePlace() {
        String nine = AB + ";way a,b,a,b,a,b,a,b,a,";
        // The end: no LINE goes on, and there is no way.
        faulty("", 1, 0);
        faulty(CAR + ";", 1, CAR.length() + 1);
        faulty(AB + ";way", 1, AB.length() + 4);
        faulty(AB + ";way a,", 1, AB.length() + 7);
        // A tenth PLACE: no NAME, one that isn't told, one without a road.
        faultyAt(nine + "or", 1, "or");
        faulty(nine, 1, nine.length());
        faultyAt(nine + "7", 1, "7");
        faultyAt(nine + "z", 2, "z");
        faultyAt(nine + "a", 5, "a");
        faultyAt(nine + "b", 5, "b");
        // A PLACE that isn't told has no road and no pump.
        faultyAt(AB + ";way a,z", 2, "z");
        faultyAt(PUMPED + ";receipt z 0", 2, "z");
        faultyAt(AB + ";road z z", 2, "z z");
        // No way goes on with a digit, so that is no way of one PLACE.
        faultyAt(AB + ";way a 7", 1, "7");
        faultyAt(AB + ";way a b", 1, "b");
    }

    /** 2: up to 800 bytes; then NONE, and none comes. */
    private static void theTape() {
        LastsToNext x = new LastsToNext();
        String text = PUMPED.replace("has 5", "has 3") + ";way a,b;receipt a 6";
        Told.feed(x, text + " ".repeat(780 - text.length()));
        T.due("56 tape", x.size(13), 780);
        T.due("2 exactly 800", x.feed(0x20202020, 0x20202020, 0x20202020, 0x20202020, 0x20202037), 800);
        for (int i = 0; i < 3; i++) {
            T.due("2 more than 800", x.feed(0x41414141, 0x41414141, 0x41414141, 0x41414141, 0x41414141), -1);
            T.due("56 none comes", x.size(13), 800);
        }
        T.refused("3 801", x.road(801), x, 2);
        T.due("56 THE TAPE stays", x.size(13), 800);
        // The last byte is a 7 behind a receipt's WHOLE.
        T.refused("3 800", x.road(800), x, 4);
        T.due("4", x.fault(), 1);
        T.due("5 the 800th byte", x.where(), 799);
        T.due("56 it is empty then", x.size(13), 0);
        T.due("2 again", x.feed(0, 0, 0, 0, 0), 20);
        // A ROAD of 800 bytes.
        x = new LastsToNext();
        Told.feed(x, text.substring(0, text.length() - 1) + " ".repeat(800 - text.length()) + "6");
        T.accepted("3 a ROAD of 800", x.road(800), 2, x);
        T.accepted("40", x.fits(), 1, x);
        // Of each number the highest byte first, the first number first.
        x = new LastsToNext();
        x.feed(0x63617220, 0x74616e6b, 0x20352068, 0x61732035, 0x2073746f);
        T.refused("3", x.road(20), x, 4);
        T.due("5 sto", x.where(), 17);
        x.feed(0x20202020, 0x20202020, 0x20202020, 0x20202020, 0x202020ff);
        T.refused("3", x.road(20), x, 4);
        T.due("5 the twentieth byte", x.where(), 19);
        x.feed(0x80202020, 0, 0, 0, 0);
        T.refused("3", x.road(20), x, 4);
        T.due("5 the first byte", x.where(), 0);
    }

    /** 3: the first n bytes alone; 2 if THE TAPE has fewer, or n is below 0. */
    private static void partOfTheTape() {
        String text = PUMPED.replace("has 5", "has 3") + ";way a,b,a;receipt a 12";
        int[] lengths = {text.length(), text.length() - 1, text.indexOf(";receipt"), text.indexOf(",a;"), text.indexOf(",a;") + 2};
        int[] stations = {3, 3, 3, 2, 3};
        for (int i = 0; i < lengths.length; i++) {
            LastsToNext x = new LastsToNext();
            Told.feed(x, text);
            T.accepted("3 " + lengths[i], x.road(lengths[i]), stations[i], x);
            T.due("56 it is empty then", x.size(13), 0);
        }
        LastsToNext x = new LastsToNext();
        Told.feed(x, text);
        x.road(text.length());
        T.accepted("3 12 pence", x.fits(), 1, x);
        Told.feed(x, text);
        x.road(text.length() - 1);
        T.accepted("3 half a WHOLE: 1 penny", x.fits(), 0, x);
        Told.feed(x, text);
        int fed = x.size(13);
        for (int n : new int[] {fed + 1, -1, Integer.MAX_VALUE, Integer.MIN_VALUE}) {
            T.refused("3 " + n, x.road(n), x, 2);
            T.due("56 THE TAPE stays", x.size(13), fed);
        }
        T.accepted("3 all that was fed", x.road(fed), 3, x);
        T.refused("3 nothing is left", x.road(1), x, 2);
        // No bytes at all are a text, though no ROAD: THE TAPE is emptied by it.
        Told.feed(x, text);
        T.refused("3 none", x.road(0), x, 4);
        T.due("4 none", x.fault(), 1);
        T.due("5 none", x.where(), 0);
        T.due("56 none", x.size(13), 0);
    }

    /** Terms I, 1: the end, where no ROAD ends: behind each TOKEN of each LINE but its last one. */
    private static void cutOff() {
        String[] lines = {"car tank 5 has 5 stop 0 , 0 stuck 7", "place a", "place b", "road a b takes 3 minutes 0", "pump a price 6 or 7 shut 0",
            "pump b price 6 shut 0", "way a , b , a", "receipt a 6"};
        String before = "";
        for (String line : lines) {
            String[] tokens = line.split(" ");
            String text = before;
            for (int i = 0; i < tokens.length - 1; i++) {
                text += i == 0 ? tokens[i] : " " + tokens[i];
                boolean isWay = tokens[0].equals("way") && i == 3;
                if (isWay) {
                    fine(text, 2);
                } else {
                    faulty(text, text.endsWith("way a") ? 6 : 1, text.length());
                    faulty(text + "   ", text.endsWith("way a") ? 6 : 1, text.length() + 3);
                }
            }
            boolean told = before.contains("way") || line.startsWith("way");
            if (told) {
                fine(before + line, 3);
            } else {
                faulty(before + line, 6, before.length() + line.length());
            }
            before += line + ";";
            faulty(before, 1, before.length());
        }
    }

    /** 3: nothing of the former ROAD is left in the next one. */
    private static void nothingIsLeft() {
        LastsToNext x = new LastsToNext();
        String full = "car tank 9 has 9 stop 9,9 stuck 99;place a;place b;place c;road a b takes 3 minutes 9;road b c takes 3 minutes 9;"
                + "pump a price 6 or 7 shut 9;pump b price 6 or 7 shut 9;way a,b,c;receipt a 6;receipt b 6";
        String bare = Told.row("tank 2 has 0 stop 0,0 stuck 0", "5 shut 0", 2, "", 2, "");
        // Twice each time, and three times, since former and next may change places.
        for (int i = 0; i < 3; i++) {
            T.accepted("3", Told.tell(x, full), 3, x);
            T.accepted("3", Told.tell(x, full), 3, x);
            T.accepted("40", x.fits(), 0, x);
            T.accepted("43", x.needle(true), 8, x);
            T.accepted("3", Told.tell(x, bare), 3, x);
            int[] sizes = {2, 0, 0, 0, 0, 3, 2, 1, 3, 0, FIRST_DRAW, 0, 0, 0};
            for (int what = 0; what < sizes.length; what++) {
                T.due("56 " + what, x.size(what), sizes[what]);
            }
            T.accepted("7 no second price", x.pump(0, 1), -2, x);
            T.refused("7 no pump", x.pump(1, 0), x, 6);
            T.accepted("40", x.fits(), 0, x);
            T.accepted("42", x.went(false), 0, x);
            T.accepted("42", x.went(true), 0, x);
            T.accepted("43", x.needle(false), -2, x);
            T.accepted("14", x.cheapest(), -2, x);
            T.accepted("3", Told.tell(x, AB + ";way b,a"), 2, x);
            T.refused("6 no third PLACE", x.takes(1, 2, false), x, 1);
            T.accepted("40", x.fits(), 1, x);
            T.accepted("42", x.went(false), 3, x);
            T.accepted("42", x.went(true), 3, x);
            T.accepted("43", x.needle(false), 3, x);
            T.accepted("43", x.needle(true), 5, x);
            T.accepted("3", Told.tell(x, CAR + ";place a;place b;place c;road a c takes 1 minutes 0;way a,c"), 2, x);
            T.accepted("6 no road", x.takes(0, 1, false), -2, x);
            T.accepted("6 no minutes", x.takes(2, 0, true), 0, x);
        }
    }

    /** 3: refused by 2 or 4, the ROAD, the PLAN, the JOURNEY, IMAGES stay. */
    private static void whatStays() {
        LastsToNext x = Told.of(Told.ROAD);
        x.plan(1, 9);
        x.plan(2, 1);
        x.fill(2);
        x.waits();
        x.image();
        x.seed(321);
        List<String> texts = List.of("", "car", Told.ROAD + ";", Told.ROAD.substring(0, Told.ROAD.length() - 1) + "0", "place a",
                PUMPED + ";way a", Told.CAR + ";place b;place c;road b c takes 1 minutes 1;way c,b;way");
        for (String text : texts) {
            T.refused("3 " + text, Told.tell(x, text), x, 4);
            int[] sizes = {10, 4, 2, 5, 90, 4, 4, 3, 4, 2, 321, 2, 1, 0};
            for (int what = 0; what < sizes.length; what++) {
                T.due("3 stays, " + what, x.size(what), sizes[what]);
            }
            T.accepted("3 the PLAN stays", x.cost(), 56, x);
            T.accepted("3 the car stays", x.car(2), 20, x);
            T.accepted("3 the car stays", x.car(3), 15, x);
            T.accepted("3 roads stay", x.takes(0, 2, true), 25, x);
            T.accepted("3 pumps stay", x.pump(2, 1), 3, x);
            T.accepted("3 receipts stay", x.fits(), 1, x);
            T.refused("3 " + text, x.road(1), x, 2);
            T.accepted("3 the way stays", x.station(3), 3, x);
        }
        T.due("52 what can be undone stays", x.undo(), true);
        T.due("54 the IMAGE stays", x.back(0), true);
    }

    /** 3: SEED 0, then the JOURNEY begins; no pints in the PLAN; nothing to undo, no IMAGES. */
    private static void whatBegins() {
        String[] texts = {AB + ";way a,b", PUMPED + ";way a,b", AB + ";pump a price 6 or 7 shut 0;way a,b", PUMPED + ";way b,a"};
        // Station 0's pump takes no DRAW if there is none, one by one price, two by two.
        int[] seeds = {0, 74, 5624, 0};
        int[] prices = {-2, 6, 6, -2};
        int[] places = {0, 0, 0, 1};
        LastsToNext x = Told.of(Told.ROAD);
        for (int i = 0; i < texts.length; i++) {
            x.plan(0, 1);
            x.fill(1);
            x.waits();
            x.seed(9);
            x.image();
            T.accepted("3 " + texts[i], Told.tell(x, texts[i]), 2, x);
            T.due("3 SEED", x.size(10), seeds[i]);
            T.due("3 nothing to undo", x.size(11), 0);
            T.refused("52", x.undo(), x, 6);
            T.due("3 no IMAGES", x.size(12), 0);
            T.refused("54", x.back(0), x, 1);
            T.accepted("12 no pints in the PLAN", x.judge(), -2, x);
            T.accepted("13 no pints in the PLAN", x.cost(), 0, x);
            int[] car = {places[i], 5, 0, 0, prices[i]};
            for (int what = 0; what < car.length; what++) {
                T.accepted("47 " + what, x.car(what), car[what], x);
            }
        }
    }

    /** 4: 0 without one; that of the latest road() not refused by 2. 5: NONE but behind a call refused by 4. */
    private static void faultAndWhere() {
        LastsToNext x = new LastsToNext();
        T.due("4 no road() yet", x.fault(), 0);
        T.due("5 no road() yet", x.where(), -1);
        x.road(1);
        T.due("4 by 2", x.fault(), 0);
        T.due("5 by 2", x.where(), -1);
        Told.tell(x, "car tank 41");
        for (int i = 0; i < 2; i++) {
            T.due("4", x.fault(), 4);
            T.due("5", x.where(), 9);
        }
        // What tells no number is no call that may be refused.
        x.trouble();
        x.size(99);
        Told.led(x, 0);
        x.feed(0, 0, 0, 0, 0);
        T.due("5 stays", x.where(), 9);
        x.judge();
        T.due("5 another one was refused", x.where(), -1);
        T.due("57", x.trouble(), 1);
        T.due("4 stays", x.fault(), 4);
        x.road(21);
        T.due("4 by 2 stays", x.fault(), 4);
        T.due("5 by 2", x.where(), -1);
        T.refused("3", x.road(20), x, 4);
        T.due("4 another one", x.fault(), 1);
        T.due("5 another one", x.where(), 0);
        Told.tell(x, AB + ";way a,b");
        T.due("4 without one", x.fault(), 0);
        T.due("5 without one", x.where(), -1);
        x.road(1);
        T.due("4 by 2", x.fault(), 0);
        Told.tell(x, "7");
        T.due("5", x.where(), 0);
        x.station(0);
        T.due("5 another one wasn't refused", x.where(), -1);
        T.due("4", x.fault(), 1);
    }
}
