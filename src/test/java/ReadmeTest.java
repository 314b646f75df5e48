import java.io.IOException;
import java.nio.file.Files;
import java.nio.file.Path;
import java.util.regex.Matcher;
import java.util.regex.Pattern;

/** What README.md shows holds: its text is a ROAD, and each call it shows with an answer gives that answer. */
public final class ReadmeTest {
    private static final Told T = new Told("readme");

    private static long answer(LastsToNext x, String call) {
        switch (call) {
            case "cheapest()":
                return x.cheapest();
            case "how(0)":
                return x.how(0);
            case "how(1)":
                return x.how(1);
            case "byRule(0)":
                return x.byRule(0);
            case "mean(1, false)":
                return x.mean(1, false);
            case "mean(1, true)":
                return x.mean(1, true);
            case "net(true)":
                return x.net(true);
            case "fits()":
                return x.fits();
            case "drive(1)":
                return x.drive(1);
            case "car(0)":
                return x.car(0);
            case "drive(9)":
                return x.drive(9);
            case "trouble()":
                return x.trouble();
            default:
                throw new IllegalStateException("no test of " + call);
        }
    }

    public static void main(String[] args) throws IOException {
        String readme = Files.readString(Path.of("README.md"));
        Matcher block = Pattern.compile("```text\n(.*?)```", Pattern.DOTALL).matcher(readme);
        T.due("a text", block.find(), true);
        LastsToNext x = Told.of(block.group(1).trim().replace('\n', ' '));
        Matcher shown = Pattern.compile("x\\.(\\w+\\([^)]*\\)); +// (-?\\d+)").matcher(readme);
        int calls = 0;
        while (shown.find()) {
            T.due(shown.group(1), answer(x, shown.group(1)), Long.parseLong(shown.group(2)));
            calls++;
        }
        T.due("calls shown", calls, 12);
        T.end();
    }
}
