import java.io.IOException;
import java.lang.reflect.Method;
import java.lang.reflect.Modifier;
import java.nio.file.Files;
import java.nio.file.Path;
import java.util.ArrayList;
import java.util.List;
import java.util.regex.Matcher;
import java.util.regex.Pattern;

/** The page README.md holds: its example answers what it says there, and it names every call of the face. */
public final class ReadmeTests {
    private static final Due due = new Due();

    /** A line of the example that says its answer: meadow.NAME(NUMBERS); // ANSWER. */
    private static final Pattern TOLD = Pattern.compile("meadow\\.(\\w+)\\((.*?)\\);\\s*// (-?\\d+)\\b.*");

    public static void main(String[] args) throws IOException, ReflectiveOperationException {
        String page = Files.readString(Path.of("README.md"));
        example(page);
        namesEveryCall(page);
        due.end();
    }

    private static void example(String page) throws ReflectiveOperationException {
        String code = between(page, "```java\n", "```");
        TenYards meadow = new TenYards();
        Due.write(meadow, 0, between(code, "String text = \"", "\""));
        int told = 0;
        for (String line : code.split("\n")) {
            Matcher m = TOLD.matcher(line);
            if (m.matches()) {
                told++;
                due.is("README.md: " + line.trim(), answer(meadow, m.group(1), m.group(2)), Long.parseLong(m.group(3)));
            }
        }
        due.is("README.md: lines that say their answers", told, code.split("//", -1).length - 1);
    }

    private static long answer(TenYards meadow, String name, String numbers) throws ReflectiveOperationException {
        List<Object> given = new ArrayList<>();
        for (String number : numbers.isEmpty() ? new String[0] : numbers.split(", ")) {
            boolean isNumber = number.matches("-?\\d+");
            given.add(isNumber ? (Object) Integer.valueOf(number) : (Object) Boolean.valueOf(number));
        }
        return ((Number) call(name).invoke(meadow, given.toArray())).longValue();
    }

    private static Method call(String name) {
        for (Method m : TenYards.class.getDeclaredMethods()) {
            if (Modifier.isPublic(m.getModifiers()) && m.getName().equals(name)) {
                return m;
            }
        }
        throw new AssertionError("README.md has a call that the face has not: " + name);
    }

    private static void namesEveryCall(String page) {
        for (Method m : TenYards.class.getDeclaredMethods()) {
            if (Modifier.isPublic(m.getModifiers())) {
                due.isTrue("README.md names " + m.getName(), page.contains("`" + m.getName() + "`"));
            }
        }
    }

    private static String between(String text, String ahead, String behind) {
        int start = text.indexOf(ahead);
        int end = start < 0 ? -1 : text.indexOf(behind, start + ahead.length());
        if (end < 0) {
            throw new AssertionError("README.md has nothing between " + ahead + " and " + behind);
        }
        return text.substring(start + ahead.length(), end);
    }
}
