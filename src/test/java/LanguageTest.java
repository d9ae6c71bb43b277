import java.io.IOException;
import java.lang.reflect.Field;
import java.lang.reflect.Modifier;
import java.nio.file.Files;
import java.nio.file.Path;
import java.util.ArrayList;
import java.util.HashSet;
import java.util.List;
import java.util.Set;
import java.util.regex.Matcher;
import java.util.regex.Pattern;

/**
 * Rules of ../shared/LANGUAGE.md that can be seen in the text of the class or by reflection. The
 * class needs less than the rules leave, so some tests here are stricter than the rules.
 */
public final class LanguageTest {
    private static final int MOST_LINES = 60;
    private static final int MOST_FIELDS = 20;
    private static final Pattern METHOD = Pattern.compile(
        "^( +)((?:public |private |static |final )*)([\\w\\[\\]]+ )?(\\w+)\\(([^)]*)\\)(?: throws \\w+)? \\{$");

    public static void main(String[] args) throws IOException {
        String source = Files.readString(Path.of("src/main/java/LicenceTexts.java"));
        String code = withoutTextsAndComments(source);
        characters(source);
        forbiddenWords(code);
        library(code);
        exceptions(code);
        loops(code);
        methods(code);
        fields(LicenceTexts.class);
        for (Class<?> inside : LicenceTexts.class.getDeclaredClasses()) {
            fields(inside);
            Checks.due("no class deeper inside " + inside, inside.getDeclaredClasses().length, 0);
        }
        Checks.end();
    }

    /** Texts become "", characters '', comments blanks; line ends stay. */
    private static String withoutTextsAndComments(String source) {
        Pattern skipped = Pattern.compile("\"(?:[^\"\\\\]|\\\\.)*\"|'(?:[^'\\\\]|\\\\.)'|//[^\n]*|/\\*.*?\\*/",
            Pattern.DOTALL);
        return skipped.matcher(source).replaceAll(found -> {
            String text = found.group();
            boolean comment = text.startsWith("/");
            return comment ? text.replaceAll("[^\n]", "") : text.startsWith("'") ? "' '" : "\"\"";
        });
    }

    private static void dueAbsent(String code, String pattern) {
        Matcher found = Pattern.compile(pattern).matcher(code);
        Checks.due("'" + pattern + "' in the class", found.find() ? found.group() : "", "");
    }

    private static void characters(String source) {
        Checks.due("characters 0 to 255 alone", source.chars().allMatch(c -> c < 256), true);
    }

    // Rules 2, 3, 5, 6, 8 to 10, 13

    private static void forbiddenWords(String code) {
        for (String word : new String[] {"package", "import", "finally", "synchronized", "assert", "try", "catch",
            "instanceof", "volatile", "transient", "native", "strictfp", "protected", "double", "float", "while", "do",
            "goto", "yield", "var", "equals", "hashCode", "toString", "System", "Thread", "Random", "Object"}) {
            dueAbsent(code, "\\b" + word + "\\b");
        }
        dueAbsent(code, "->|::");
        // No texts are joined.
        dueAbsent(code, "\"\" *\\+|\\+ *\"\"");
        // No rows of rows, and no block of a class by itself.
        dueAbsent(code, "\\[\\s*\\]\\s*\\[|\\]\\[");
        dueAbsent(code, "(?m)^ *(static )?\\{ *$");
        dueAbsent(code, "\\w+Exact\\b");
    }

    // Rule 4: only calls of its own methods, and two of a String

    private static void library(String code) {
        Set<String> own = new HashSet<>(Set.of("length", "charAt"));
        for (String line : code.split("\n")) {
            Matcher method = METHOD.matcher(line);
            if (method.matches()) {
                own.add(method.group(4));
            }
        }
        Matcher call = Pattern.compile("\\.\\s*(\\w+)\\(").matcher(code);
        while (call.find()) {
            Checks.due("a call of " + call.group(1), own.contains(call.group(1)), true);
        }
    }

    // Rule 6: table() alone throws

    private static void exceptions(String code) {
        Matcher thrown = Pattern.compile("throw [^;]*;").matcher(code);
        List<String> all = new ArrayList<>();
        while (thrown.find()) {
            all.add(thrown.group());
        }
        Checks.due("what is thrown", all.toString(), "[throw new IndexOutOfBoundsException(\"\");]");
        String table = code.substring(code.indexOf("public int table("), code.indexOf("public int allowed("));
        Checks.due("it is thrown by table()", table.contains("throw new"), true);
    }

    // Rule 9: each loop counts against a bound

    private static void loops(String code) {
        Matcher loop = Pattern.compile("\\bfor \\(([^;]*);([^;]*);([^;)]*)\\)").matcher(code);
        int counted = 0;
        while (loop.find()) {
            counted++;
            Matcher counter = Pattern.compile("int (\\w+) = .*").matcher(loop.group(1));
            boolean counts = counter.matches();
            Checks.due("a loop's counter: " + loop.group(), counts, true);
            String name = counts ? counter.group(1) : "";
            boolean up = loop.group(3).trim().equals(name + "++") && loop.group(2).contains(name + " < ");
            boolean down = loop.group(3).trim().equals(name + "--") && loop.group(2).contains(name + " >= 0");
            Checks.due("a loop's end: " + loop.group(), up || down, true);
        }
        Matcher all = Pattern.compile("\\bfor\\b").matcher(code);
        Checks.due("loops that count", counted, all.results().count());
    }

    // Rule 11: at most seven parameters, some sixty lines

    private static void methods(String code) {
        String[] lines = code.split("\n");
        int methods = 0;
        for (int i = 0; i < lines.length; i++) {
            Matcher method = METHOD.matcher(lines[i]);
            if (method.matches()) {
                methods++;
                int end = i;
                while (!lines[end].equals(method.group(1) + "}")) {
                    end++;
                }
                Checks.due("lines of " + method.group(4), end - i < MOST_LINES, true);
                Checks.due("parameters of " + method.group(4), method.group(5).split(",").length <= 7, true);
            }
        }
        Checks.due("methods are found", methods > 80, true);
    }

    // Rules 5 and 11

    private static void fields(Class<?> type) {
        int own = 0;
        for (Field f : type.getDeclaredFields()) {
            boolean constant = Modifier.isStatic(f.getModifiers());
            own += constant ? 0 : 1;
            boolean plain = f.getType() == int.class || f.getType() == long.class;
            Checks.due("a constant: " + f, !constant || plain && Modifier.isFinal(f.getModifiers()), true);
        }
        Checks.due("fields of " + type, own <= MOST_FIELDS, true);
    }
}
