/** Promises 2 to 5: texts with the FAULT that is due and its place. */
public final class FaultsTest {
    private static final Told T = new Told("faults");
    private static final String CAR = "car tank 5 has 5 stop 0,0 stuck 7";
    private static final String AB = CAR + ";place a;place b;road a b takes 3 minutes 0;";

    private static void faulty(String text, int fault, int place) {
        LastsToNext x = new LastsToNext();
        int answer = Told.tell(x, text);
        T.due("3 " + text, answer, -1);
        T.due("57 " + text, x.trouble(), 4);
        T.due("4 " + text, x.fault(), fault);
        T.due("5 " + text, x.where(), place);
        T.due("56 tape, " + text, x.size(13), 0);
        T.due("56 stations, " + text, x.size(8), 0);
    }

    private static void faultyAt(String text, int fault, String at) {
        faulty(text, fault, text.lastIndexOf(at));
    }

    private static void fine(String text, int stations) {
        LastsToNext x = new LastsToNext();
        T.due("3 " + text, Told.tell(x, text), stations);
        T.due("57 " + text, x.trouble(), 0);
        T.due("4 " + text, x.fault(), 0);
        T.due("5 " + text, x.where(), -1);
    }

    private static String many(String line, int n) {
        return line.repeat(n);
    }

    private static String places(int n) {
        StringBuilder text = new StringBuilder(CAR);
        for (int i = 0; i < n; i++) {
            text.append(";place ").append((char) ('a' + i));
        }
        return text.toString();
    }

    private static String roads(int n) {
        StringBuilder text = new StringBuilder(places(9));
        int told = 0;
        for (int a = 0; a < 9; a++) {
            for (int b = a + 1; b < 9 && told < n; b++) {
                text.append(";road ").append((char) ('a' + a)).append(' ').append((char) ('a' + b)).append(" takes 1 minutes 0");
                told++;
            }
        }
        return text.toString();
    }

    private static String pumps(int n) {
        StringBuilder text = new StringBuilder(places(9));
        for (int i = 0; i < n; i++) {
            text.append(";pump ").append((char) ('a' + i)).append(" price 1 shut 0");
        }
        return text.toString();
    }

    public static void main(String[] args) {
        form();
        names();
        bounds();
        room();
        lacks();
        unfit();
        tape();
        T.end();
    }

    private static void form() {
        fine(AB + "way a,b", 2);
        fine("  car tank5has5stop0,0stuck7 ; place a;place b ;road a b takes3minutes 0;way a , b  ", 2);
        fine("car tank 005 has 5 stop 00,000 stuck 007;place tank;place shut;road tank shut takes 3 minutes 0;way tank,shut", 2);
        fine(CAR + ";place abcdefgh;place b;road b abcdefgh takes 3 minutes 0;way abcdefgh,b", 2);
        faulty("", 1, 0);
        faulty("   ", 1, 3);
        faulty("foo", 1, 0);
        faulty("or", 1, 0);
        faulty("7", 1, 0);
        faulty(";", 1, 0);
        faulty("car tank 5 has 5 stop 0,0 stuck", 1, 31);
        faulty("car tank 5 has 5 stop 0,0 stuck  ", 1, 33);
        faulty(CAR + ";", 1, 34);
        faulty(CAR + ";;", 1, 34);
        faulty(CAR + ",", 1, 33);
        faultyAt("car tank 5 has 5 stop 0 ; stuck", 1, ";");
        faultyAt("car tank ;", 1, ";");
        faultyAt(AB + "pump a price ;", 1, ";");
        faultyAt("car tank 1 has 0 stop 0,0 stuck 0;car", 3, "car");
        faultyAt("car has 5", 1, "has");
        faultyAt("car tank tank", 1, "tank");
        faultyAt("car tank 5 has 5 stop 0,0 stuck 7 8", 1, "8");
        faultyAt("car tank 1000", 1, "1000");
        faultyAt("Car", 1, "C");
        faultyAt("car Tank", 1, "T");
        faultyAt(CAR + ";place a\tb", 1, "\t");
        faultyAt(CAR + ";place \u00e9", 1, "\u00e9");
        faultyAt(CAR + ";place abcdefghi", 1, "abcdefghi");
        faultyAt(CAR + ";place 7", 1, "7");
        faultyAt(CAR + ";place a b", 1, "b");
        for (String word : new String[] {"car", "place", "road", "pump", "way", "receipt", "or"}) {
            faultyAt(CAR + ";place " + word, 1, word);
            faultyAt(AB + "way a," + word, 1, word);
            faultyAt(AB + "pump " + word, 1, word);
            faultyAt(AB + "receipt " + word, 1, word);
            faultyAt(CAR + ";place a;road a " + word, 1, word);
        }
        faulty(AB + "way a,b,", 1, AB.length() + 8);
        faultyAt(AB + "way a b", 1, "b");
        faultyAt(AB + "way ,", 1, ",");
        faultyAt(AB + "way a,;", 1, ";");
        faultyAt(AB + "pump a price 1 or 2 or 3 shut 0", 1, "or");
        faultyAt(AB + "pump a price 1 or shut 0", 1, "shut");
        faultyAt(AB + "pump a price 1 , 2", 1, ",");
        faultyAt(AB + "pump a shut 0", 1, "shut");
        faultyAt(AB + "receipt a", 7, "a");
        faulty(AB + "pump a price 1 shut 0;receipt a", 1, (AB + "pump a price 1 shut 0;receipt a").length());
        faulty(AB + "way", 1, (AB + "way").length());
        faultyAt(CAR + ";place a;place b;road a b minutes 3", 1, "minutes");
    }

    private static void names() {
        faultyAt(CAR + ";place a;place b;place a", 3, "a");
        faultyAt(CAR + ";place a;road a c", 2, "c");
        faultyAt(CAR + ";place a;road c a", 2, "c a");
        faultyAt(CAR + ";place a;road a a", 3, "a");
        faultyAt(AB + "road a b", 3, "b");
        faultyAt(AB + "road b a", 3, "a");
        faultyAt(AB + "pump c", 2, "c");
        faultyAt(AB + "pump a price 1 shut 0;pump a", 3, "a");
        faultyAt(AB + "pump a price 2 or 2", 3, "2");
        faultyAt(AB + "pump a price 2 or 002", 3, "002");
        faultyAt(CAR + ";car", 3, "car");
        faultyAt(AB + "car tank 99", 3, "car");
        faultyAt(AB + "way a,b;way", 3, "way");
        faultyAt(AB + "way c", 2, "c");
        faultyAt(AB + "way a,c", 2, "c");
        faultyAt(AB + "receipt c", 2, "c");
        fine(CAR + ";place ab;place a;place abc;road ab abc takes 3 minutes 0;way ab,abc", 2);
    }

    private static void bounds() {
        faultyAt("car tank 0", 4, "0");
        faultyAt("car tank 41", 4, "41");
        faultyAt("car tank 40 has 41", 4, "41");
        faultyAt("car tank 40 has 40 stop 100", 4, "100");
        faultyAt("car tank 40 has 40 stop 99, 61", 4, "61");
        fine("car tank 40 has 40 stop 99,60 stuck 999;place a;place b;road a b takes 40 minutes 99;"
                + "pump a price 99 or 98 shut 9;way a,b;receipt a 999", 2);
        fine("car tank 1 has 0 stop 0,0 stuck 0;place a;place b;road a b takes 1 minutes 0;"
                + "pump a price 1 or 99 shut 0;way a,b;receipt a 1", 2);
        faultyAt(CAR + ";place a;place b;road a b takes 0", 4, "0");
        faultyAt(CAR + ";place a;place b;road a b takes 41", 4, "41");
        faultyAt(CAR + ";place a;place b;road a b takes 40 minutes 100", 4, "100");
        faultyAt(AB + "pump a price 0", 4, "0");
        faultyAt(AB + "pump a price 100", 4, "100");
        faultyAt(AB + "pump a price 1 or 0", 4, "0");
        faultyAt(AB + "pump a price 1 or 100", 4, "100");
        faultyAt(AB + "pump a price 1 shut 10", 4, "10");
        faultyAt(AB + "pump a price 1 shut 0;receipt a 0", 4, "0");
    }

    private static void room() {
        faultyAt(places(9) + ";place j", 5, "place");
        faultyAt(places(9) + ";place a", 5, "place");
        faultyAt(roads(14) + ";road", 5, "road");
        fine(roads(14) + ";way a,b", 2);
        faultyAt(pumps(8) + ";pump i", 5, "pump");
        String full = AB + "pump a price 1 shut 0;" + many("receipt a 1;", 5);
        fine(full + "way a,b", 2);
        faultyAt(full + "receipt", 5, "receipt");
        fine(AB + "way a,b,a,b,a,b,a,b,a", 9);
        faultyAt(AB + "way a,b,a,b,a,b,a,b,a,b", 5, "b");
        faultyAt(AB + "way a,b,a,b,a,b,a,b,a,a", 5, "a");
        faultyAt(AB + "way a,b,a,b,a,b,a,b,a,c", 2, "c");
        faultyAt(AB + "way a,b,a,b,a,b,a,b,a,or", 1, "or");
        faulty(AB + "way a,b,a,b,a,b,a,b,a,", 1, AB.length() + 22);
    }

    private static void lacks() {
        for (String word : new String[] {"place", "road", "pump", "way", "receipt"}) {
            faulty(word + " a", 6, 0);
            faulty("  " + word, 6, 2);
        }
        faulty(AB + "way a", 6, AB.length() + 5);
        faulty(AB + "way a ", 6, AB.length() + 6);
        faulty(AB + "way a ;", 6, AB.length() + 6);
        faulty(AB + "pump a price 1 shut 0", 6, AB.length() + 21);
        faulty(CAR, 6, CAR.length());
        faulty(CAR + "  ", 6, CAR.length() + 2);
    }

    private static void unfit() {
        faultyAt(AB + "way a,a", 7, "a");
        faultyAt(AB + "place c;way a,b,c", 7, "c");
        // A road told behind the way is none yet.
        faultyAt(CAR + ";place a;place b;way a,b;", 7, "b");
        faulty(CAR + ";place a;place b;way a,b;road a b takes 3 minutes 0", 7, CAR.length() + 23);
        faultyAt(AB + "pump a price 1 shut 0;receipt b", 7, "b");
        faulty(AB + "receipt a 1;pump a price 1 shut 0", 7, AB.length() + 8);
        fine(AB + "way a,b;place c;road b c takes 1 minutes 1;pump c price 1 shut 0;receipt c 5", 2);
    }

    private static void tape() {
        LastsToNext x = new LastsToNext();
        T.due("4 fault, new", x.fault(), 0);
        T.due("5 where, new", x.where(), -1);
        for (int i = 1; i <= 40; i++) {
            T.due("2 feed " + i, x.feed(0x20202020, 0x20202020, 0x20202020, 0x20202020, 0x20202020), 20 * i);
        }
        T.due("2 feed 41", x.feed(0, 0, 0, 0, 0), -1);
        T.due("56 tape", x.size(13), 800);
        T.refused("3 road(801)", x.road(801), x, 2);
        T.refused("3 road(-1)", x.road(-1), x, 2);
        T.due("56 tape stays", x.size(13), 800);
        T.due("4 fault stays", x.fault(), 0);
        T.refused("3 road(800)", x.road(800), x, 4);
        T.due("4 fault", x.fault(), 1);
        T.due("5 where", x.where(), 800);
        T.due("56 tape", x.size(13), 0);
        // feed has no number, so it is no call that may be refused.
        x.feed(0x41424344, 0, 0, 0, 0);
        T.due("5 where behind feed", x.where(), 800);
        T.due("57 trouble behind feed", x.trouble(), 4);
        T.refused("3 road(21)", x.road(21), x, 2);
        T.due("5 where behind 2", x.where(), -1);
        T.due("4 fault behind 2", x.fault(), 1);
        T.refused("3 road(20)", x.road(20), x, 4);
        T.due("5 where", x.where(), 0);
        Told.feed(x, "car tank 5 has 5 stop 0,0 stuck 7;place a;place b;road a b takes 3 minutes 0;way a,b");
        T.accepted("3 road", x.road(84), 2, x);
        T.due("4 fault", x.fault(), 0);
        T.due("5 where", x.where(), -1);
        // The ROAD stays where another one is refused.
        T.due("3 other", Told.tell(x, "car tank 9"), -1);
        T.due("4 fault", x.fault(), 1);
        T.due("5 where", x.where(), 10);
        T.due("56 tank", x.size(0), 5);
        T.due("56 stations", x.size(8), 2);
        T.accepted("8 station", x.station(1), 1, x);
        T.due("5 where", x.where(), -1);
    }
}
