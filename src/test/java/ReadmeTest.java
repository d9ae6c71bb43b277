import java.io.IOException;
import java.lang.reflect.Method;
import java.nio.file.Files;
import java.nio.file.Path;
import java.util.HashSet;
import java.util.List;
import java.util.Set;
import java.util.regex.Matcher;
import java.util.regex.Pattern;
import java.util.stream.Stream;

/** The example in README.md: each call of it answers what the comment behind it says. */
public final class ReadmeTest {
    private static final Pattern TEXT = Pattern.compile("for \\(char c : \"(.*)\"\\.toCharArray\\(\\)\\) \\{");
    private static final Pattern CALL = Pattern.compile("\\s*x\\.(\\w+)\\((.*)\\);\\s*// (-?\\d+|true|false)\\b.*");

    private final LicenceTexts x = new LicenceTexts();
    private final Set<String> called = new HashSet<>();
    private String text = "";

    public static void main(String[] args) throws Exception {
        List<String> lines = Files.readAllLines(Path.of("README.md"));
        new ReadmeTest().runExample(lines);
        namesEachTest(String.join("\n", lines));
        Checks.end();
    }

    private void runExample(List<String> lines) throws ReflectiveOperationException {
        int from = lines.indexOf("```java") + 1;
        int to = from + lines.subList(from, lines.size()).indexOf("```");
        Checks.due("an example is there", from > 0 && to > from, true);
        for (String line : lines.subList(from, to)) {
            runLine(line);
        }
        for (Method m : LicenceTexts.class.getDeclaredMethods()) {
            int modifiers = m.getModifiers();
            boolean shown = !java.lang.reflect.Modifier.isPublic(modifiers) || called.contains(m.getName());
            // walk() and editions() stand in the table of calls alone.
            boolean plain = m.getName().equals("walk") || m.getName().equals("editions");
            Checks.due("the example shows " + m.getName(), shown || plain, true);
        }
    }

    private void runLine(String line) throws ReflectiveOperationException {
        Matcher fed = TEXT.matcher(line);
        Matcher call = CALL.matcher(line);
        if (fed.matches()) {
            text = fed.group(1);
        } else if (call.matches() && call.group(1).equals("unit")) {
            called.add("unit");
            for (char c : text.toCharArray()) {
                Checks.due(line, String.valueOf(x.unit(c)), call.group(3));
            }
        } else if (call.matches()) {
            called.add(call.group(1));
            Checks.due(line, answer(call.group(1), call.group(2)), call.group(3));
        } else {
            boolean frame = line.equals("LicenceTexts x = new LicenceTexts();") || line.equals("}");
            Checks.due("a line that is no call: " + line, frame, true);
        }
    }

    private String answer(String name, String arguments) throws ReflectiveOperationException {
        String[] given = arguments.isEmpty() ? new String[0] : arguments.split(", ");
        for (Method m : LicenceTexts.class.getMethods()) {
            if (m.getName().equals(name) && m.getParameterCount() == given.length) {
                Object[] values = new Object[given.length];
                for (int i = 0; i < given.length; i++) {
                    boolean isLong = m.getParameterTypes()[i] == long.class;
                    values[i] = isLong ? (Object) Long.valueOf(given[i]) : (Object) Integer.valueOf(given[i]);
                }
                return String.valueOf(m.invoke(x, values));
            }
        }
        return "no such call";
    }

    private static void namesEachTest(String readme) throws IOException {
        try (Stream<Path> files = Files.list(Path.of("src/test/java"))) {
            for (Path file : (Iterable<Path>) files::iterator) {
                String name = file.getFileName().toString().replace(".java", "");
                Checks.due("README.md names " + name, readme.contains("`" + name + "`") || name.equals("Checks"), true);
            }
        }
    }
}
