import java.io.IOException;
import java.lang.reflect.Field;
import java.lang.reflect.Method;
import java.lang.reflect.Modifier;
import java.nio.file.Files;
import java.nio.file.Path;
import java.util.List;
import java.util.Set;
import java.util.TreeSet;
import java.util.regex.Matcher;
import java.util.regex.Pattern;

/** The face as the document has it, and those rules of LANGUAGE.md that a test can look at. */
public final class FaceTest {
    private static final Told T = new Told("face");

    private static void face(String doc) {
        Set<String> wanted = new TreeSet<>();
        Matcher m = Pattern.compile("    public (int|long|boolean) (\\w+)\\(([^)]*)\\)").matcher(doc);
        while (m.find()) {
            wanted.add(m.group(1) + " " + m.group(2) + " " + m.group(3).replaceAll("(int|boolean) \\w+", "$1").replace(" ", ""));
        }
        Set<String> has = new TreeSet<>();
        Set<String> names = new TreeSet<>();
        for (Method method : LastsToNext.class.getDeclaredMethods()) {
            if (Modifier.isPrivate(method.getModifiers())) {
                continue;
            }
            StringBuilder types = new StringBuilder();
            for (Class<?> type : method.getParameterTypes()) {
                types.append(types.length() > 0 ? "," : "").append(type.getName());
            }
            has.add(method.getReturnType().getName() + " " + method.getName() + " " + types);
            names.add(method.getName());
            T.due(method.getName() + " is public", Modifier.isPublic(method.getModifiers()), true);
        }
        T.due("56 methods", wanted.size(), 56);
        T.due("the face " + has, has.equals(wanted), true);
        privateNames(LastsToNext.class, names);
        for (Class<?> inside : LastsToNext.class.getDeclaredClasses()) {
            privateNames(inside, names);
        }
    }

    private static void privateNames(Class<?> type, Set<String> names) {
        int instanceFields = 0;
        for (Method method : type.getDeclaredMethods()) {
            T.due(type + " " + method.getName() + " has at most seven parameters", method.getParameterCount() <= 7, true);
            boolean clash = type != LastsToNext.class && names.contains(method.getName())
                    || type == LastsToNext.class && Modifier.isPrivate(method.getModifiers()) && names.contains(method.getName());
            T.due(type + " " + method.getName() + " has a name of its own", clash, false);
        }
        for (Field field : type.getDeclaredFields()) {
            if (Modifier.isStatic(field.getModifiers())) {
                T.due(type + " " + field.getName() + " is final", Modifier.isFinal(field.getModifiers()), true);
            } else {
                instanceFields++;
            }
            boolean isConstant = type == LastsToNext.class && field.getName().equals("NONE");
            if (type == LastsToNext.class) {
                T.due(field.getName() + " is private", Modifier.isPrivate(field.getModifiers()), !isConstant);
            }
        }
        T.due(type + " has some twenty fields at most", instanceFields <= 20, true);
    }

    private static void source(List<String> lines) {
        int begun = -1;
        for (int i = 0; i < lines.size(); i++) {
            String line = lines.get(i);
            boolean opens = line.matches("\\s+(public |private |static |final )*[\\w\\[\\]]+ ?\\w*\\(.*\\{") && !line.contains(" class ")
                    && !line.matches("\\s+(if|for|while|switch|\\} else).*");
            begun = opens ? i : begun;
            if (begun >= 0 && line.matches("    (    )?\\}")) {
                T.due("lines of the method at " + (begun + 1), i - begun <= 60, true);
                begun = -1;
            }
            for (String banned : new String[] {"->", "::", "catch", "try {", "finally", "synchronized", "assert ", "while (true", "System.out", " var ", "Exact("}) {
                T.due("line " + (i + 1) + " has " + banned, line.contains(banned), false);
            }
            if (line.startsWith("import")) {
                T.due(line, line.equals("import java.util.Arrays;") || line.equals("import java.util.NoSuchElementException;"), true);
            }
        }
        long classes = lines.stream().filter(line -> line.contains(" class ")).count();
        T.due("some twelve classes", classes <= 12, true);
    }

    public static void main(String[] args) throws IOException {
        face(Files.readString(Path.of("../shared/DOC.md")));
        source(Files.readAllLines(Path.of("src/main/java/LastsToNext.java")));
        T.end();
    }
}
