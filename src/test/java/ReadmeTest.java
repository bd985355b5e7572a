import java.io.IOException;
import java.lang.reflect.Method;
import java.lang.reflect.Modifier;
import java.nio.file.Files;
import java.nio.file.Path;
import java.util.ArrayList;
import java.util.List;
import java.util.TreeSet;
import java.util.regex.Matcher;
import java.util.regex.Pattern;
import java.util.stream.Stream;

/** README.md: each call in its examples answers what stands behind it, and each test is named. */
public final class ReadmeTest {
    private static final Pattern CALL =
            Pattern.compile("x\\.(\\w+)\\(([^)]*)\\);\\s+// (-?\\d+|true|false)(: .*)?");
    private static final Pattern TEST_ROW = Pattern.compile("\\| (\\w+Test) \\| .+ \\|");
    private static final String MAKE = "BitCopier x = new BitCopier();";
    private static final int MOST_CALLS = 512;

    private final TreeSet<String> called = new TreeSet<>();
    private BitCopier x = null;
    private int calls = 0;

    public static void main(String[] args) throws IOException, ReflectiveOperationException {
        List<String> readme = Files.readAllLines(Path.of("README.md"));
        new ReadmeTest().examples(readme);
        tests(readme);
        Check.end();
    }

    private void examples(List<String> readme) throws ReflectiveOperationException {
        for (String line : codeOf(readme)) {
            if (line.equals(MAKE)) {
                x = new BitCopier();
                calls = 0;
            } else {
                example(line);
            }
        }
        Check.due("calls of an example: within 512", calls <= MOST_CALLS, true);
        for (Method m : BitCopier.class.getDeclaredMethods()) {
            if (Modifier.isPublic(m.getModifiers())) {
                Check.due("an example of " + m.getName(), called.contains(m.getName()), true);
            }
        }
    }

    private static List<String> codeOf(List<String> readme) {
        List<String> code = new ArrayList<>();
        boolean inside = false;
        for (String line : readme) {
            if (line.startsWith("```")) {
                inside = line.equals("```java");
            } else if (inside) {
                code.add(line);
            }
        }
        return code;
    }

    private void example(String line) throws ReflectiveOperationException {
        Matcher parts = CALL.matcher(line);
        boolean understood = x != null && parts.matches();
        Check.due("understood: " + line, understood, true);
        if (!understood) {
            return;
        }
        Object answer = answerOf(parts.group(1), parts.group(2));
        calls++;
        called.add(parts.group(1));
        Check.due(line + " (now " + answer + ")", String.valueOf(answer).equals(parts.group(3)), true);
    }

    private Object answerOf(String name, String written) throws ReflectiveOperationException {
        String[] texts = written.isEmpty() ? new String[0] : written.split(", ");
        Object[] values = new Object[texts.length];
        Class<?>[] types = new Class<?>[texts.length];
        for (int i = 0; i < texts.length; i++) {
            boolean truth = texts[i].equals("true") || texts[i].equals("false");
            types[i] = truth ? boolean.class : int.class;
            values[i] = truth ? (Object) Boolean.valueOf(texts[i]) : (Object) numberOf(texts[i]);
        }
        return BitCopier.class.getMethod(name, types).invoke(x, values);
    }

    private static Integer numberOf(String text) {
        return text.equals("BitCopier.NONE") ? BitCopier.NONE : Integer.decode(text);
    }

    private static void tests(List<String> readme) throws IOException {
        TreeSet<String> named = new TreeSet<>();
        for (String line : readme) {
            Matcher row = TEST_ROW.matcher(line);
            if (row.matches()) {
                named.add(row.group(1) + ".java");
            }
        }
        TreeSet<String> present = new TreeSet<>();
        try (Stream<Path> files = Files.list(Path.of("src/test/java"))) {
            files.map(file -> file.getFileName().toString())
                    .filter(name -> name.endsWith("Test.java"))
                    .forEach(present::add);
        }
        Check.due("tests named " + named + ", present " + present, named.equals(present), true);
    }
}
