import java.io.IOException;
import java.lang.reflect.Constructor;
import java.lang.reflect.Field;
import java.lang.reflect.Method;
import java.lang.reflect.Modifier;
import java.nio.file.Files;
import java.nio.file.Path;
import java.util.ArrayList;
import java.util.Arrays;
import java.util.List;
import java.util.Set;
import java.util.TreeSet;
import java.util.regex.Matcher;
import java.util.regex.Pattern;

/** What a program can see of LANGUAGE.md: the face, the words that are not used, the sizes. */
public final class LanguageTest {
    private static final String[] FACE = {
        "base(int)", "broken(int)", "change(int,int)", "clash(int)", "decision(int,int,int)",
        "fact(int)", "first(int)", "keep()", "least()", "limit(int,int)", "near(int)",
        "old(int,int)", "pin(int,int)", "put(int,int)", "rule(int,int,int,int)", "run()",
        "spare(int)", "told(int)", "undo()", "value(int)", "way(int)", "weight(int,int,int)",
        "why(int)", "without(int)", "worth(int,int,int)"};
    private static final String[] CONSTANTS = {"NONE", "OUTSIDE", "ROOM", "STATE", "UNKNOWN"};
    private static final String[] WORDS = {
        "throw", "throws", "try", "catch", "finally", "synchronized", "assert", "import", "package",
        "protected", "volatile", "native", "equals", "hashCode", "toString", "System.out",
        "Exact", "Random", "currentTimeMillis", "nanoTime", "Thread", "Object", "var", "->", "::"};

    private static final Due due = new Due("language");

    public static void main(String[] args) throws IOException {
        face();
        nestedClasses();
        String source = Files.readString(Path.of("src/main/java/NearPlans.java"));
        String code = source.replaceAll("(?s)/\\*.*?\\*/", "").replaceAll("//[^\n]*", "");
        words(code);
        methodLengths(code);
        due.end();
    }

    private static void face() {
        Class<?> c = NearPlans.class;
        due.is("public and final", c.getModifiers(), Modifier.PUBLIC | Modifier.FINAL);
        Set<String> methods = new TreeSet<>(), hidden = new TreeSet<>(), names = new TreeSet<>();
        for (Method m : c.getDeclaredMethods()) {
            if (m.isSynthetic()) continue;
            if (!Modifier.isPrivate(m.getModifiers())) {
                methods.add(signature(m));
                names.add(m.getName());
                due.is(m.getName() + " is public and no more", m.getModifiers(), Modifier.PUBLIC);
                due.is(m.getName() + " answers an int", m.getReturnType() == int.class ? 1 : 0, 1);
            } else {
                hidden.add(m.getName());
            }
        }
        due.is("the methods " + methods, methods.equals(new TreeSet<>(Arrays.asList(FACE))) ? 1 : 0, 1);
        hidden.retainAll(names);
        due.is("private methods with a public name " + hidden, hidden.size(), 0);
        Set<String> constants = new TreeSet<>();
        for (Field f : c.getDeclaredFields()) if (!Modifier.isPrivate(f.getModifiers())) constants.add(f.getName());
        due.is("the constants " + constants, constants.equals(new TreeSet<>(Arrays.asList(CONSTANTS))) ? 1 : 0, 1);
        Constructor<?>[] made = c.getDeclaredConstructors();
        due.is("constructors", made.length, 1);
        due.is("its parameters", made[0].getParameterCount(), 0);
        due.is("it is public", made[0].getModifiers(), Modifier.PUBLIC);
    }

    private static String signature(Method m) {
        List<String> types = new ArrayList<>();
        for (Class<?> type : m.getParameterTypes()) types.add(type.getSimpleName());
        return m.getName() + "(" + String.join(",", types) + ")";
    }

    private static void nestedClasses() {
        Set<String> names = new TreeSet<>();
        for (Method m : NearPlans.class.getMethods()) if (m.getDeclaringClass() == NearPlans.class) names.add(m.getName());
        Class<?>[] nested = NearPlans.class.getDeclaredClasses();
        due.is("at most twelve classes", nested.length < 12 ? 1 : 0, 1);
        for (Class<?> c : nested) {
            due.is(c + " is static", Modifier.isStatic(c.getModifiers()) ? 1 : 0, 1);
            for (Field f : c.getDeclaredFields()) {
                if (Modifier.isStatic(f.getModifiers())) due.is(f + " is final", Modifier.isFinal(f.getModifiers()) ? 1 : 0, 1);
            }
            for (Method m : c.getDeclaredMethods()) {
                due.is(m + " has a name of its own", names.contains(m.getName()) ? 1 : 0, 0);
                due.is(m + " has seven parameters at most", m.getParameterCount() <= 7 ? 1 : 0, 1);
            }
            due.is(c + " has twenty fields at most", c.getDeclaredFields().length <= 20 ? 1 : 0, 1);
        }
    }

    private static void words(String code) {
        for (String word : WORDS) {
            boolean letters = Character.isLetter(word.charAt(0)) && !word.equals("Exact");
            String pattern = letters ? "\\b" + Pattern.quote(word) + "\\b" : Pattern.quote(word);
            due.is("the word " + word, Pattern.compile(pattern).matcher(code).find() ? 1 : 0, 0);
        }
        Matcher made = Pattern.compile("\\bnew\\b").matcher(code.substring(code.indexOf("public int decision")).split("private static final class")[0]);
        due.is("the public methods make no object", made.find() ? 1 : 0, 0);
    }

    /** A method begins with a head at four or eight blanks and ends with a brace at as many. */
    private static void methodLengths(String code) {
        String[] lines = code.split("\n");
        for (int i = 0; i < lines.length; i++) {
            if (!lines[i].matches(" {4}( {4})?[a-z][^=;]*\\) \\{")) continue;
            String end = lines[i].substring(0, lines[i].length() - lines[i].stripLeading().length()) + "}";
            int last = i;
            while (last < lines.length && !lines[last].equals(end)) last++;
            due.is("sixty lines at most: " + lines[i].strip(), last - i < 60 ? 1 : 0, 1);
        }
    }
}
