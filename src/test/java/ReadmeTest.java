import java.io.IOException;
import java.lang.reflect.InvocationTargetException;
import java.lang.reflect.Method;
import java.lang.reflect.Modifier;
import java.nio.file.Files;
import java.nio.file.Path;
import java.util.ArrayList;
import java.util.HashMap;
import java.util.List;
import java.util.Map;
import java.util.TreeSet;
import java.util.regex.Matcher;
import java.util.regex.Pattern;
import java.util.stream.Stream;

/**
 * What README.md says of the class: the example is read from the file, so that the calls that are made here and the
 * answers that are compared are those that stand there.
 */
public final class ReadmeTest {
    private static final Path README = Path.of("README.md");
    private static final Path TESTS = Path.of("src/test/java");
    private static final String NEW_OBJECT = "SheetNeeds x = new SheetNeeds();";
    /** A call, kept under a name or not, with its answer and perhaps a word on it: 'int a = x.run();  // 2: why'. */
    private static final Pattern CALL =
            Pattern.compile("(?:(\\w+) (\\w+) = )?x\\.(\\w+)\\((.*)\\); +// ([^:]+)(?:: .+)?");
    private static final Pattern SOURCE_OPERAND = Pattern.compile("-1 - (\\w+)");
    private static final Pattern TABLE_ROW = Pattern.compile("\\| `(\\w+)` \\|.*");

    private final Check check = new Check();
    private final Map<String, Long> names = new HashMap<>();
    private final TreeSet<String> called = new TreeSet<>();
    private SheetNeeds x;
    private int callsOfObject;

    public static void main(String[] args) throws IOException {
        List<String> lines = Files.readAllLines(README);
        ReadmeTest test = new ReadmeTest();
        for (String line : exampleIn(lines)) {
            test.follow(line);
        }
        test.wholeFaceIsShown();
        test.namedTestsAreThere(lines);
        test.check.end();
    }

    private static List<String> exampleIn(List<String> lines) {
        List<String> example = new ArrayList<>();
        boolean inside = false;
        for (String line : lines) {
            if (line.startsWith("```")) {
                inside = line.equals("```java");
            } else if (inside) {
                example.add(line);
            }
        }
        return example;
    }

    private void follow(String line) {
        if (line.equals(NEW_OBJECT)) {
            x = new SheetNeeds();
            callsOfObject = 0;
            names.clear();
            return;
        }
        Matcher parts = CALL.matcher(line);
        boolean understood = parts.matches() && x != null;
        check.is("'" + line + "' is a call of x with its answer", understood, true);
        if (understood) {
            call(line, parts);
        }
    }

    private void call(String line, Matcher parts) {
        Method method = methodOf(parts.group(3));
        check.is("'" + line + "' calls a method of the face", method != null, true);
        if (method == null) {
            return;
        }
        called.add(method.getName());
        callsOfObject++;
        check.is("calls of one object are at most 512", callsOfObject <= 512, true);
        String answer = answerOf(method, valuesOf(parts.group(4), method.getParameterTypes()));
        check.isText("'" + line + "' in README.md: the answer", answer, parts.group(5));
        if (parts.group(2) != null) {
            check.isText("'" + line + "' in README.md: the type", parts.group(1), method.getReturnType().getName());
            boolean fresh = names.put(parts.group(2), Long.valueOf(answer)) == null;
            check.is("'" + line + "' gives a name of its own", fresh, true);
        }
    }

    private static Method methodOf(String name) {
        for (Method m : SheetNeeds.class.getDeclaredMethods()) {
            if (Modifier.isPublic(m.getModifiers()) && m.getName().equals(name)) {
                return m;
            }
        }
        return null;
    }

    private Object[] valuesOf(String texts, Class<?>[] types) {
        String[] all = texts.isEmpty() ? new String[0] : texts.split(", ");
        if (all.length != types.length) {
            throw new IllegalArgumentException("README.md gives (" + texts + ") to a method of " + types.length);
        }
        Object[] values = new Object[all.length];
        for (int i = 0; i < all.length; i++) {
            if (types[i] == boolean.class) {
                values[i] = Map.of("true", true, "false", false).get(all[i]);
            } else if (types[i] == int.class) {
                values[i] = Math.toIntExact(numberOf(all[i]));
            } else {
                values[i] = numberOf(all[i]);
            }
        }
        return values;
    }

    private long numberOf(String text) {
        Matcher source = SOURCE_OPERAND.matcher(text);
        if (source.matches()) {
            return -1 - numberOf(source.group(1));
        }
        return names.containsKey(text) ? names.get(text) : Long.parseLong(text);
    }

    private String answerOf(Method method, Object[] values) {
        try {
            return String.valueOf(method.invoke(x, values));
        } catch (InvocationTargetException e) {
            return "throws " + e.getCause().getClass().getSimpleName();
        } catch (IllegalAccessException e) {
            return "is not public";
        }
    }

    private void wholeFaceIsShown() {
        TreeSet<String> face = new TreeSet<>();
        for (Method m : SheetNeeds.class.getDeclaredMethods()) {
            if (Modifier.isPublic(m.getModifiers())) {
                face.add(m.getName());
            }
        }
        check.isText("the methods in README.md's example", called.toString(), face.toString());
    }

    private void namedTestsAreThere(List<String> lines) throws IOException {
        TreeSet<String> named = new TreeSet<>();
        for (String line : lines) {
            Matcher row = TABLE_ROW.matcher(line);
            if (row.matches()) {
                named.add(row.group(1) + ".java");
            }
        }
        TreeSet<String> there = new TreeSet<>();
        try (Stream<Path> files = Files.list(TESTS)) {
            files.map(file -> file.getFileName().toString())
                    .filter(name -> name.endsWith("Test.java"))
                    .forEach(there::add);
        }
        check.isText("the tests that README.md names", named.toString(), there.toString());
    }
}
