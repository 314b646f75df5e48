import java.lang.reflect.InvocationTargetException;
import java.lang.reflect.Method;
import java.util.ArrayList;
import java.util.List;
import java.util.Random;
import java.util.Set;

/** Promises 6 to 10, 14 to 16, 18 to 46: told by the ROAD alone, whatever was asked, planned or done ahead of it. */
public final class MixedTest {
    private static final Told T = new Told("calls mixed");
    private static final Set<String> BY_ROAD_ALONE = Set.of("takes", "pump", "station", "legs", "lasts", "cheapest", "how", "fewest",
            "without", "gap", "within", "rest", "need", "buys", "byRule", "stuckAt", "odds", "mean", "bestRule", "bestMean", "buy", "sure",
            "net", "most", "near", "worth", "far", "loads", "depot", "convoy", "fits", "fit", "went", "needle", "run", "through", "beats");

    private static Object[] arguments(Method method, Random r) {
        Object[] args = new Object[method.getParameterCount()];
        for (int i = 0; i < args.length; i++) {
            boolean isBoolean = method.getParameterTypes()[i] == boolean.class;
            args[i] = isBoolean ? (Object) r.nextBoolean() : (Object) (r.nextInt(r.nextInt(6) == 0 ? 60 : 5) - (r.nextInt(20) == 0 ? 1 : 0));
        }
        return args;
    }

    private static String answer(LastsToNext x, Method method, Object[] args) throws IllegalAccessException, InvocationTargetException {
        return method.invoke(x, args) + ", trouble " + x.trouble();
    }

    /** What may leave something behind that a later answer must not see. */
    private static void disturb(LastsToNext x, Random r) {
        switch (r.nextInt(8)) {
            case 0 -> x.plan(r.nextInt(8), r.nextInt(9));
            case 1 -> x.fill(1 + r.nextInt(5));
            case 2 -> x.drive(r.nextInt(9));
            case 3 -> x.waits();
            case 4 -> x.seed(r.nextInt(65537));
            case 5 -> x.undo();
            case 6 -> x.back(x.image());
            default -> Told.tell(x, "car tank 7 has 7 stop 1,1 stuck 1;place a;place b;road a b takes 2 minutes 2;pump a price 3 shut 1;way a");
        }
    }

    public static void main(String[] args) throws IllegalAccessException, InvocationTargetException {
        List<Method> methods = new ArrayList<>();
        for (Method method : LastsToNext.class.getMethods()) {
            if (BY_ROAD_ALONE.contains(method.getName())) {
                methods.add(method);
            }
        }
        T.due("calls", methods.size(), BY_ROAD_ALONE.size());
        methods.sort(java.util.Comparator.comparing(Method::getName));
        Random r = new Random(11);
        for (int round = 0; round < 400; round++) {
            String text = Model.random(r, 9, 40, 9).text(r);
            LastsToNext x = Told.of(text);
            for (int i = 0; i < 100; i++) {
                disturb(x, r);
                Method method = methods.get(r.nextInt(methods.size()));
                Object[] arguments = arguments(method, r);
                String due = answer(Told.of(text), method, arguments);
                String got = answer(x, method, arguments);
                T.due(method.getName() + java.util.Arrays.toString(arguments) + " " + text + ": " + got + ", alone " + due, got.equals(due), true);
            }
        }
        T.end();
    }
}
