import java.util.ArrayList;
import java.util.HashSet;
import java.util.List;
import java.util.Random;
import java.util.Set;

/** Promises 3 to 5 on random texts with something changed: form by a pattern first, all other FAULTS gathered, the first taken. */
public final class TextBruteTest {
    private static final Told T = new Told("texts");
    private static final Set<String> NO_NAMES = Set.of("car", "place", "road", "pump", "way", "receipt", "or");

    private record Token(String text, int place) {
        char kind() {
            char c = text.isEmpty() ? '.' : text.charAt(0);
            return Character.isLetter(c) && c < 128 && Character.isLowerCase(c) ? 'w' : Character.isDigit(c) ? '9' : c;
        }

        int value() {
            return Integer.parseInt(text);
        }
    }

    /** A FAULT as one number: of two the lesser is the one that is due. */
    private static int found(int fault, int place) {
        return place * 10 + fault;
    }

    /** All TOKENS up to the first byte that begins none, or the end; that is an empty one with kind '.' or '!'. */
    private static List<Token> tokens(String text) {
        List<Token> all = new ArrayList<>();
        int at = 0;
        while (at < text.length()) {
            String rest = text.substring(at);
            String run = rest.replaceFirst("(?s)^([a-z]+|[0-9]+|.).*$", "$1");
            if (run.matches("[a-z]{1,8}|[0-9]{1,3}|[;,]")) {
                all.add(new Token(run, at));
            } else if (!run.equals(" ")) {
                all.add(new Token("!", at));
                return all;
            }
            at += run.length();
        }
        all.add(new Token("", text.length()));
        return all;
    }

    /** What may stand in a LINE of a sort, token by token: N a name, 9 a WHOLE, others as they are; * the one before it again. */
    private static String shape(String word) {
        switch (word) {
            case "car":
                return "car tank 9 has 9 stop 9 , 9 stuck 9";
            case "place":
                return "place N";
            case "road":
                return "road N N takes 9 minutes 9";
            case "pump":
                return "pump N price 9 shut 9";
            case "way":
                return "way N";
            case "receipt":
                return "receipt N 9";
            default:
                return null;
        }
    }

    private static boolean is(Token token, String wanted) {
        if (wanted.equals("N")) {
            return token.kind() == 'w' && !NO_NAMES.contains(token.text);
        }
        return wanted.equals("9") ? token.kind() == '9' : token.text.equals(wanted);
    }

    /** The index of the first token with which no ROAD goes on, or the number of tokens. Lines are put into the list. */
    private static int form(List<Token> tokens, List<List<Token>> lines) {
        int at = 0;
        while (true) {
            List<Token> line = new ArrayList<>();
            lines.add(line);
            String shape = shape(tokens.get(at).text);
            if (shape == null) {
                return at;
            }
            List<String> wanted = new ArrayList<>(List.of(shape.split(" ")));
            for (int i = 0; i < wanted.size(); i++, at++) {
                if (wanted.get(i).equals("shut") && i == 4 && tokens.get(at).text.equals("or")) {
                    wanted.add(4, "or");
                    wanted.add(5, "9");
                }
                if (!is(tokens.get(at), wanted.get(i))) {
                    return at;
                }
                line.add(tokens.get(at));
                if (wanted.get(0).equals("way") && i == wanted.size() - 1 && tokens.get(at + 1).text.equals(",")) {
                    wanted.add(",");
                    wanted.add("N");
                }
            }
            line.add(tokens.get(at));
            if (tokens.get(at).text.isEmpty()) {
                return tokens.size();
            }
            if (!tokens.get(at).text.equals(";")) {
                line.remove(line.size() - 1);
                return at;
            }
            at++;
        }
    }

    private final List<String> names = new ArrayList<>();
    private final Set<String> roads = new HashSet<>();
    private final Set<String> pumps = new HashSet<>();
    private final int[] counts = new int[6];
    private int least = Integer.MAX_VALUE;

    private void add(boolean isFault, int fault, Token token) {
        if (isFault) {
            least = Math.min(least, found(fault, token.place));
        }
    }

    private void bounds(List<Token> line, int i, int from, int to) {
        if (i < line.size()) {
            add(line.get(i).value() < from || line.get(i).value() > to, 4, line.get(i));
        }
    }

    private void untold(List<Token> line, int i) {
        if (i < line.size()) {
            add(!names.contains(line.get(i).text), 2, line.get(i));
        }
    }

    private void look(List<Token> line) {
        if (line.isEmpty()) {
            return;
        }
        Token word = line.get(0);
        int sort = List.of("car", "place", "road", "pump", "way", "receipt").indexOf(word.text);
        add(sort == 0 && counts[0] > 0 || sort == 4 && counts[4] > 0, 3, word);
        add(sort > 0 && counts[0] == 0, 6, word);
        add(sort != 4 && sort != 0 && counts[sort] >= new int[] {1, 9, 14, 8, 1, 5}[sort], 5, word);
        counts[sort]++;
        switch (sort) {
            case 0 -> {
                bounds(line, 2, 1, 40);
                bounds(line, 4, 0, line.size() > 2 ? line.get(2).value() : 0);
                bounds(line, 6, 0, 99);
                bounds(line, 8, 0, 60);
                bounds(line, 10, 0, 999);
            }
            case 1 -> {
                if (line.size() > 1) {
                    add(names.contains(line.get(1).text), 3, line.get(1));
                    names.add(line.get(1).text);
                }
            }
            case 2 -> {
                untold(line, 1);
                untold(line, 2);
                if (line.size() > 2) {
                    String a = line.get(1).text;
                    String b = line.get(2).text;
                    add(a.equals(b) || roads.contains(a + " " + b), 3, line.get(2));
                    roads.add(a + " " + b);
                    roads.add(b + " " + a);
                }
                bounds(line, 4, 1, 40);
                bounds(line, 6, 0, 99);
            }
            case 3 -> lookAtPump(line);
            case 4 -> lookAtWay(line);
            default -> {
                untold(line, 1);
                if (line.size() > 1) {
                    add(!pumps.contains(line.get(1).text), 7, line.get(1));
                }
                bounds(line, 2, 1, 999);
            }
        }
    }

    private void lookAtPump(List<Token> line) {
        untold(line, 1);
        if (line.size() > 1) {
            add(!pumps.add(line.get(1).text), 3, line.get(1));
        }
        bounds(line, 3, 1, 99);
        boolean two = line.size() > 4 && line.get(4).text.equals("or");
        if (two && line.size() > 5) {
            bounds(line, 5, 1, 99);
            add(line.get(5).value() == line.get(3).value(), 3, line.get(5));
        }
        bounds(line, two ? 7 : 5, 0, 9);
    }

    private void lookAtWay(List<Token> line) {
        for (int i = 1; i < line.size(); i++) {
            Token token = line.get(i);
            if (token.kind() == 'w') {
                add(!names.contains(token.text), 2, token);
                add(i > 18, 5, token);
                add(i > 1 && !roads.contains(line.get(Math.max(1, i - 2)).text + " " + token.text), 7, token);
            } else {
                add(i == 2 && !token.text.equals(","), 6, token);
            }
        }
    }

    /** The FAULT that is due, place times ten and number, or the greatest int. */
    private static int due(String text) {
        List<Token> tokens = tokens(text);
        List<List<Token>> lines = new ArrayList<>();
        int bad = form(tokens, lines);
        TextBruteTest state = new TextBruteTest();
        for (List<Token> line : lines) {
            state.look(line);
        }
        if (bad < tokens.size()) {
            state.least = Math.min(state.least, found(1, tokens.get(bad).place));
        } else {
            state.add(state.counts[4] == 0, 6, tokens.get(tokens.size() - 1));
        }
        return state.least;
    }

    private static String changed(String text, Random r) {
        String[] parts = {"car", "place", "road", "pump", "way", "receipt", "or", "tank", "has", "stop", "stuck", "takes", "minutes", "price",
            "shut", ";", ",", "a", "b", "c", "z", "0", "1", "2", "9", "10", "40", "41", "99", "100", "999", "1000", " ", "abcdefghi", "A", "\u00e4",
            ";place q", ";place a", ";road a b takes 1 minutes 1", ";pump a price 1 shut 0", ";pump b price 1 or 2 shut 0", ";way a,b",
            ";receipt a 1", ",a", ",b", " or 3", "receipt b 5;", "place w;"};
        String now = text;
        for (int i = 1 + r.nextInt(3); i > 0 && !now.isEmpty(); i--) {
            int at = r.nextInt(now.length() + 1);
            int to = Math.min(now.length(), at + (r.nextBoolean() ? 0 : r.nextInt(4)));
            switch (r.nextInt(6)) {
                case 0 -> now = now.substring(0, at);
                case 1 -> now = now.substring(0, at) + now.substring(to);
                case 2 -> {
                    // A token or more in the place of one.
                    List<Token> tokens = tokens(now);
                    Token token = tokens.get(r.nextInt(tokens.size()));
                    int end = Math.min(now.length(), token.place + token.text.length());
                    now = now.substring(0, Math.min(now.length(), token.place)) + parts[r.nextInt(parts.length)] + now.substring(end);
                }
                case 3 -> {
                    String[] lines = now.split(";", -1);
                    int a = r.nextInt(lines.length);
                    int b = r.nextInt(lines.length);
                    String line = lines[a];
                    lines[a] = lines[b];
                    lines[b] = line;
                    now = String.join(";", lines);
                }
                case 4 -> now = now + parts[r.nextInt(parts.length)];
                default -> now = now.substring(0, at) + parts[r.nextInt(parts.length)] + now.substring(to);
            }
        }
        return now.length() > 800 ? now.substring(0, 800) : now;
    }

    public static void main(String[] args) {
        Random r = new Random(6);
        int[] numbers = new int[8];
        for (int round = 0; round < 40000; round++) {
            Model m = Model.random(r, 9, 40, 9);
            String text = changed(m.text(r), r);
            int due = due(text);
            LastsToNext x = new LastsToNext();
            int answer = Told.tell(x, text);
            boolean fine = due == Integer.MAX_VALUE;
            numbers[fine ? 0 : due % 10]++;
            T.due("road " + text, answer >= 2, fine);
            T.due("fault " + text, x.fault(), fine ? 0 : due % 10);
            T.due("where " + text, x.where(), fine ? -1 : due / 10);
        }
        // The texts are of use only if all FAULTS come.
        for (int fault = 0; fault < 8; fault++) {
            T.due("texts with fault " + fault + " are many: " + numbers[fault], numbers[fault] >= 20, true);
        }
        T.end();
    }
}
