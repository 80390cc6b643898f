import java.io.IOException;
import java.lang.reflect.Field;
import java.lang.reflect.Method;
import java.lang.reflect.Modifier;
import java.nio.file.Files;
import java.nio.file.Path;
import java.util.HashMap;
import java.util.Map;
import java.util.regex.Matcher;
import java.util.regex.Pattern;
import java.util.stream.Stream;

/** README.md tells the truth: its example answers what its comments say, its tables leave no call out. */
public final class ReadmeTest {
    private static final Pattern STEP =
        Pattern.compile("(?:int (\\w+) = )?plans\\.(\\w+)\\((.*)\\);\\s+// (-?\\d+): .*");

    private static final Due due = new Due("readme");

    public static void main(String[] args) throws IOException, ReflectiveOperationException {
        String text = Files.readString(Path.of("README.md"));
        example(block(text, "```java\n"));
        calls(text);
        answers(text);
        kinds(text);
        tests(text);
        due.end();
    }

    private static String block(String text, String head) {
        int start = text.indexOf(head);
        if (start < 0) return "";
        int end = text.indexOf("```", start + head.length());
        return end < 0 ? "" : text.substring(start + head.length(), end);
    }

    /** Each line is called as it stands; the names that it uses are those of the lines before it. */
    private static void example(String code) throws ReflectiveOperationException {
        NearPlans plans = new NearPlans();
        Map<String, Integer> names = new HashMap<>();
        String[] lines = code.split("\n");
        due.is("the example's first line", lines[0].equals("NearPlans plans = new NearPlans();") ? 1 : 0, 1);
        due.is("the example has some lines", lines.length > 10 ? 1 : 0, 1);
        for (int i = 1; i < lines.length; i++) {
            Matcher step = STEP.matcher(lines[i]);
            due.is("a call with its answer: " + lines[i], step.matches() ? 1 : 0, 1);
            if (!step.matches()) continue;
            int got = call(plans, step.group(2), step.group(3), names);
            due.is(lines[i], got, Integer.parseInt(step.group(4)));
            if (step.group(1) != null) names.put(step.group(1), got);
        }
    }

    private static int call(NearPlans plans, String name, String list, Map<String, Integer> names)
            throws ReflectiveOperationException {
        String[] words = list.isEmpty() ? new String[0] : list.split(", ");
        Class<?>[] types = new Class<?>[words.length];
        Object[] values = new Object[words.length];
        for (int i = 0; i < words.length; i++) {
            types[i] = int.class;
            values[i] = names.containsKey(words[i]) ? names.get(words[i]) : Integer.valueOf(words[i]);
        }
        return (Integer) NearPlans.class.getMethod(name, types).invoke(plans, values);
    }

    private static void calls(String text) {
        for (Method m : NearPlans.class.getDeclaredMethods()) {
            if (!Modifier.isPublic(m.getModifiers())) continue;
            Matcher named = Pattern.compile("\\|[^|\n]*`" + m.getName() + "\\(([^)`]*)\\)`").matcher(text);
            boolean found = named.find();
            due.is("a table names " + m.getName(), found ? 1 : 0, 1);
            if (!found) continue;
            int parameters = named.group(1).isEmpty() ? 0 : named.group(1).split(", ").length;
            due.is("the parameters of " + m.getName(), parameters, m.getParameterCount());
        }
    }

    private static void answers(String text) throws ReflectiveOperationException {
        for (Field f : NearPlans.class.getFields()) {
            String row = "| `" + f.getName() + "` | " + f.getInt(null) + " |";
            due.is("a table has " + row, text.contains(row) ? 1 : 0, 1);
        }
    }

    private static void kinds(String text) {
        for (int kind = 0; kind <= 5; kind++) {
            due.is("a table tells kind " + kind, text.contains("\n| " + kind + " | ") ? 1 : 0, 1);
        }
    }

    private static void tests(String text) throws IOException {
        due.is("how to run the tests", text.contains("`.ci/run`") ? 1 : 0, 1);
        try (Stream<Path> files = Files.list(Path.of("src/test/java"))) {
            for (Path file : (Iterable<Path>) files::iterator) {
                String name = file.getFileName().toString().replace(".java", "");
                due.is("it tells of " + name, text.contains("`" + name + "`") || name.equals("Due") ? 1 : 0, 1);
            }
        }
    }
}
