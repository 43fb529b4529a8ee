import java.io.IOException;
import java.lang.reflect.Field;
import java.lang.reflect.Method;
import java.lang.reflect.Modifier;
import java.nio.file.Files;
import java.nio.file.Path;
import java.util.Arrays;
import java.util.List;
import java.util.regex.Matcher;
import java.util.regex.Pattern;
import java.util.stream.Collectors;
import java.util.stream.Stream;

/** README.md as it stands: its calls answer what it says, and it names every call, constant and test. */
public final class ReadmeTest {
    private static final Pattern CALL = Pattern.compile("x\\.(\\w+)\\(([-\\d, ]*)\\);\\s+// (-?\\d+)(, ([A-Z]+))?(:.*)?");
    private static final Due DUE = new Due("ReadmeTest");

    private static ViewBroadcast x = null;
    private static int shown = 0;

    public static void main(String[] args) throws IOException, ReflectiveOperationException {
        List<String> page = Files.readAllLines(Path.of("README.md"));
        boolean inJava = false;
        for (String line : page) {
            if (line.startsWith("```")) {
                inJava = line.equals("```java");
            } else if (inJava) {
                play(line);
            }
        }
        String text = String.join("\n", page);
        DUE.due("calls shown", Math.min(shown, 30), 30);
        namesTheFace(text);
        namesTheTests(text);
        DUE.end();
    }

    private static void play(String line) throws ReflectiveOperationException {
        if (line.equals("ViewBroadcast x = new ViewBroadcast();")) {
            x = new ViewBroadcast();
            return;
        }
        Matcher m = CALL.matcher(line);
        if (!m.matches() || x == null) {
            DUE.due("a line that is no call, '" + line + "'", 1, 0);
            return;
        }
        int answer = call(m.group(1), m.group(2));
        shown++;
        DUE.due(line, answer, Integer.parseInt(m.group(3)));
        if (m.group(5) != null) {
            DUE.due(line, answer, ViewBroadcast.class.getField(m.group(5)).getInt(null));
        }
    }

    private static int call(String name, String list) throws ReflectiveOperationException {
        Object[] with = Stream.of(list.split(", ")).filter(s -> !s.isEmpty()).map(Integer::valueOf).toArray();
        Class<?>[] types = new Class<?>[with.length];
        Arrays.fill(types, int.class);
        return (int) ViewBroadcast.class.getMethod(name, types).invoke(x, with);
    }

    private static void namesTheFace(String text) throws IllegalAccessException {
        for (Method m : ViewBroadcast.class.getDeclaredMethods()) {
            boolean named = text.matches("(?s).*[.`]" + m.getName() + "[(`].*");
            DUE.due(m.getName() + " is named", named || !Modifier.isPublic(m.getModifiers()) ? 1 : 0, 1);
        }
        for (Field f : ViewBroadcast.class.getFields()) {
            String row = "| " + f.getInt(null) + " | `" + f.getName() + "` |";
            DUE.due(f.getName() + " is told", text.contains(row) ? 1 : 0, 1);
        }
    }

    private static void namesTheTests(String text) throws IOException {
        try (Stream<Path> files = Files.list(Path.of("src/test/java"))) {
            for (String file : files.map(f -> f.getFileName().toString()).collect(Collectors.toList())) {
                String name = file.replace(".java", "");
                DUE.due(name + " is named", !file.endsWith("Test.java") || text.contains("`" + name + "`") ? 1 : 0, 1);
            }
        }
    }
}
