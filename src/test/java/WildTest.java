import java.lang.reflect.InvocationTargetException;
import java.lang.reflect.Method;
import java.lang.reflect.Modifier;
import java.util.ArrayList;
import java.util.Comparator;
import java.util.List;
import java.util.NoSuchElementException;
import java.util.Random;

/** Any call with any arguments in any state: nothing throws but led, and like calls answer alike. */
public final class WildTest {
    private static final Told T = new Told("wild calls");
    private static final int[] ODD = {Integer.MIN_VALUE, Integer.MAX_VALUE, -1, -2, 41, 65536, 65537, 800, 801, 1000};

    private static Object[] arguments(Method method, Random r) {
        Object[] args = new Object[method.getParameterCount()];
        for (int i = 0; i < args.length; i++) {
            if (method.getParameterTypes()[i] == boolean.class) {
                args[i] = r.nextBoolean();
            } else {
                int kind = r.nextInt(8);
                args[i] = kind == 0 ? ODD[r.nextInt(ODD.length)] : kind == 1 ? r.nextInt(50) : kind == 2 ? r.nextInt() : r.nextInt(5);
            }
        }
        return args;
    }

    private static String call(LastsToNext x, Method method, Object[] args) throws IllegalAccessException {
        try {
            return String.valueOf(method.invoke(x, args));
        } catch (InvocationTargetException e) {
            boolean may = method.getName().equals("led") && e.getCause().getClass() == NoSuchElementException.class;
            T.due(method.getName() + java.util.Arrays.toString(args) + " throws " + e.getCause(), may, true);
            return "throws";
        }
    }

    private static String text(Random r) {
        String text = Model.random(r, 9, 40, 9).text(r);
        if (r.nextInt(3) > 0) {
            return text;
        }
        // A text with a part gone, or a byte changed.
        int at = r.nextInt(text.length());
        if (r.nextBoolean()) {
            return text.substring(0, at) + text.substring(Math.min(text.length(), at + 1 + r.nextInt(6)));
        }
        return text.substring(0, at) + (char) (r.nextInt(4) == 0 ? r.nextInt(256) : " ;,a09z".charAt(r.nextInt(7))) + text.substring(at + 1);
    }

    public static void main(String[] args) throws IllegalAccessException {
        List<Method> methods = new ArrayList<>();
        for (Method method : LastsToNext.class.getDeclaredMethods()) {
            if (Modifier.isPublic(method.getModifiers())) {
                methods.add(method);
            }
        }
        methods.sort(Comparator.comparing(Method::getName));
        Random r = new Random(5);
        for (int round = 0; round < 1500; round++) {
            LastsToNext x = new LastsToNext();
            LastsToNext twin = new LastsToNext();
            for (int i = 0; i < 400; i++) {
                if (i % 100 == 3 && x.size(13) == 0) {
                    String text = text(r);
                    T.due("road", Told.tell(x, text), Told.tell(twin, text));
                }
                Method method = methods.get(r.nextInt(methods.size()));
                Object[] arguments = arguments(method, r);
                String one = call(x, method, arguments);
                String two = call(twin, method, arguments);
                T.due(method.getName() + " twice", one.equals(two), true);
            }
        }
        T.end();
    }
}
