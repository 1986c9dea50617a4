import java.io.IOException;
import java.lang.reflect.InvocationTargetException;
import java.lang.reflect.Method;
import java.lang.reflect.Modifier;
import java.nio.charset.StandardCharsets;
import java.nio.file.Files;
import java.nio.file.Path;
import java.util.ArrayList;
import java.util.Arrays;
import java.util.List;
import java.util.regex.Matcher;
import java.util.regex.Pattern;
import java.util.stream.Stream;

/** What README.md says is so: its examples line by line, and that it names each call, class and test. */
public final class ReadmeTests {
    private static final Path README = Path.of("README.md");
    private static final Path TESTS = Path.of("src/test/java");
    private static final Pattern ASKED = Pattern.compile("army\\.(\\w+)\\(([-0-9, ]*)\\); +// (-?\\d+)(:.*)?");
    private static final Pattern TOLD = Pattern.compile("tell\\(army, \"([^\"]*)\"\\);");
    private static final int FEWEST_LINES = 40;

    private ReadmeTests() {
    }

    public static void main(String[] args) throws IOException {
        List<String> lines = Files.readAllLines(README, StandardCharsets.UTF_8);
        theExamples(lines);
        theNames(String.join("\n", lines));
        Check.close();
    }

    private static void theExamples(List<String> lines) {
        GingerArmy army = null;
        boolean inside = false;
        int seen = 0;
        for (String line : lines) {
            if (line.startsWith("```")) {
                inside = line.equals("```java");
                army = null;
            } else if (inside) {
                army = line.equals("GingerArmy army = new GingerArmy();") ? new GingerArmy() : army;
                oneLine(army, line);
                seen++;
            }
        }
        Check.holds("the examples are seen: " + seen, seen >= FEWEST_LINES);
    }

    private static void oneLine(GingerArmy army, String line) {
        Check.holds("an object is made ahead of: " + line, army != null);
        if (army == null || line.startsWith("GingerArmy army = ")) return;
        Matcher asked = ASKED.matcher(line);
        Matcher told = TOLD.matcher(line);
        if (asked.matches()) {
            long want = Long.parseLong(asked.group(3));
            Check.due("README: army." + asked.group(1) + "(" + asked.group(2) + ")", ask(army, asked.group(1), asked.group(2)), want);
        } else if (told.matches()) {
            Check.due("README: the last letter of " + told.group(1), tell(army, told.group(1)), told.group(1).length());
        } else {
            Check.holds("README: a line of an example that can be tried: " + line, false);
        }
    }

    private static int tell(GingerArmy army, String text) {
        int many = 0;
        for (char letter : text.toCharArray()) {
            many = army.feed(letter);
        }
        return many;
    }

    private static long ask(GingerArmy army, String name, String arguments) {
        String[] words = arguments.isEmpty() ? new String[0] : arguments.split(", ");
        Object[] values = new Object[words.length];
        Class<?>[] types = new Class<?>[words.length];
        for (int i = 0; i < words.length; i++) {
            values[i] = Integer.parseInt(words[i]);
            types[i] = int.class;
        }
        try {
            return ((Number) GingerArmy.class.getMethod(name, types).invoke(army, values)).longValue();
        } catch (NoSuchMethodException | IllegalAccessException | InvocationTargetException e) {
            throw new IllegalStateException(name, e);
        }
    }

    private static void theNames(String readme) throws IOException {
        List<String> names = new ArrayList<>(Arrays.asList("GingerArmy", "src/main/java/GingerArmy.java", ".ci/run"));
        for (Method call : GingerArmy.class.getDeclaredMethods()) {
            if (Modifier.isPublic(call.getModifiers())) names.add(call.getName());
        }
        for (Class<?> inner : GingerArmy.class.getDeclaredClasses()) {
            names.add(inner.getSimpleName());
        }
        try (Stream<Path> files = Files.list(TESTS)) {
            files.forEach(file -> names.add(file.getFileName().toString().replace(".java", "")));
        }
        for (String name : names) {
            boolean named = readme.contains("`" + name + "`") || readme.contains("\n" + name + "\n");
            Check.holds("README names " + name, named);
        }
    }
}
