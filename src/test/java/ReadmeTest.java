import java.io.IOException;
import java.lang.reflect.InvocationTargetException;
import java.lang.reflect.Method;
import java.lang.reflect.Modifier;
import java.nio.file.Files;
import java.nio.file.Path;
import java.util.ArrayList;
import java.util.List;
import java.util.Set;
import java.util.TreeSet;
import java.util.regex.Matcher;
import java.util.regex.Pattern;
import java.util.stream.Stream;

/** What README.md shows of the class is what the class answers; it is read from the checkout. */
public final class ReadmeTest {
    private static final String NEW = "PieceWays ways = new PieceWays();";
    private static final Pattern CALL = Pattern.compile(
        "(ways\\.(\\w+)\\(([^()]*)\\));\\s+// ([^:]+)(?:: (.*))?");
    private static final Pattern ROW = Pattern.compile("as a row is ([0-9 ]+)");

    private static final Set<String> shown = new TreeSet<>();
    private static PieceWays ways = null;

    public static void main(String[] args) throws IOException, IllegalAccessException {
        String readme = Files.readString(Path.of("README.md"));
        for (String line : block(readme, "java")) {
            look(line);
        }
        Set<String> face = new TreeSet<>();
        for (Method m : PieceWays.class.getDeclaredMethods()) {
            if (Modifier.isPublic(m.getModifiers())) {
                face.add(m.getName());
            }
        }
        Due.same("the methods that README.md shows", shown.toString(), face.toString());
        runsTheTests(readme);
        Due.end();
    }

    private static List<String> block(String readme, String language) {
        List<String> lines = new ArrayList<>();
        boolean inside = false;
        for (String line : readme.split("\n")) {
            if (line.startsWith("```")) {
                inside = line.equals("```" + language);
            } else if (inside && !line.isBlank()) {
                lines.add(line);
            }
        }
        return lines;
    }

    private static void look(String line) throws IllegalAccessException {
        Matcher call = CALL.matcher(line);
        if (line.equals(NEW)) {
            ways = new PieceWays();
        } else if (ways != null && call.matches()) {
            shown.add(call.group(2));
            Due.same("README.md: " + call.group(1), answer(call.group(2), call.group(3)),
                call.group(4));
            Matcher row = ROW.matcher(String.valueOf(call.group(5)));
            if (row.find()) {
                Due.same("README.md: the row", row(), row.group(1));
            }
        } else {
            Due.same("README.md", line, "a call and its answer");
        }
    }

    private static String answer(String name, String given) throws IllegalAccessException {
        Method method = null;
        for (Method m : PieceWays.class.getDeclaredMethods()) {
            if (Modifier.isPublic(m.getModifiers()) && m.getName().equals(name)) {
                method = m;
            }
        }
        String[] texts = given.isEmpty() ? new String[0] : given.split(", ");
        if (method == null || method.getParameterCount() != texts.length) {
            return "no such call";
        }
        Object[] values = new Object[texts.length];
        for (int i = 0; i < texts.length; i++) {
            values[i] = value(method.getParameterTypes()[i], texts[i]);
        }
        try {
            Object answer = method.invoke(ways, values);
            return method.getReturnType() == void.class ? "nothing" : String.valueOf(answer);
        } catch (InvocationTargetException e) {
            return "throws " + e.getCause().getClass().getSimpleName();
        }
    }

    private static Object value(Class<?> type, String text) {
        if (type == boolean.class) {
            return Boolean.valueOf(text);
        }
        if (type == int.class) {
            return Integer.valueOf(text);
        }
        return Long.decode(text.replace("L", ""));
    }

    private static String row() {
        StringBuilder all = new StringBuilder();
        for (int i = 0; i < ways.size(); i++) {
            all.append(i == 0 ? "" : " ").append(ways.way(i));
        }
        return all.toString();
    }

    private static void runsTheTests(String readme) throws IOException {
        List<String> commands = block(readme, "sh");
        Due.same("README.md: how to run the tests", commands.toString(), "[.ci/run]");
        Due.same(".ci/run can be run", Files.isExecutable(Path.of(".ci/run")), true);
        try (Stream<Path> files = Files.list(Path.of("src/test/java"))) {
            for (Path file : files.sorted().toList()) {
                String name = file.getFileName().toString().replace(".java", "");
                Due.same("README.md names " + name, readme.contains("`" + name + "`"), true);
            }
        }
    }
}
