import java.io.IOException;
import java.lang.reflect.Constructor;
import java.lang.reflect.Field;
import java.lang.reflect.Method;
import java.lang.reflect.Modifier;
import java.nio.file.Files;
import java.nio.file.Path;
import java.util.Arrays;
import java.util.Set;
import java.util.TreeSet;
import java.util.regex.Matcher;
import java.util.regex.Pattern;

/** The class's face as the document tells it, and those rules of LANGUAGE.md that can be looked up. */
public final class FaceTests {
    private static final Due due = new Due();

    private static final String[] FACE = {
        "int air(int)", "int wind(int, boolean)", "int set(int, int)", "int faller(int, int)", "int drift(int, int)",
        "int steers(int, int, int, int, boolean)", "int barred(int, int)", "int fall(int, int, int, int)",
        "int fallBy(int, int, int, int, int)", "int at(int, int, int, int, int)", "int mean(int, int, int, boolean)",
        "int exit(int, int)", "int load(int, int, int, int, int)", "int bestLoad(int, int, int, int)",
        "int order(int, int, int, int, int)", "int cone(int, int, int)", "int steering(int, int, int, int)",
        "int last(int)", "int safe(int, int, int)", "int within(int, int, int, int, int, int)",
        "int stop(int, int, int, int, int, int)", "int knew(int, int, int, int)", "int two(int, int, int, int, int)",
        "int habits(int, int, int, int, int, int)", "int crates(int, int, int, int)", "int judge(int, int, int)",
        "int image()", "int restore()", "int count(int)", "int keep(int, int, int)", "int row(int, int, int)",
        "int put(int, int, int)",
        "long element(int, int) throws IllegalArgumentException IllegalStateException",
        "int copy(int, int, int, int, int)", "int care(int)", "int toss(int)"};

    public static void main(String[] args) throws IOException {
        face();
        classesInside();
        source(Files.readString(Path.of(System.getProperty("tenyards.source", "src/main/java/TenYards.java"))));
        due.end();
    }

    private static void face() {
        due.isTrue("the class is public and final", TenYards.class.getModifiers() == (Modifier.PUBLIC | Modifier.FINAL));
        Constructor<?>[] constructors = TenYards.class.getDeclaredConstructors();
        due.is("constructors", constructors.length, 1);
        due.is("numbers of the constructor", constructors[0].getParameterCount(), 0);
        due.isTrue("the constructor is public", Modifier.isPublic(constructors[0].getModifiers()));
        Set<String> found = new TreeSet<>();
        for (Method m : TenYards.class.getDeclaredMethods()) {
            if (Modifier.isPublic(m.getModifiers())) {
                found.add(told(m));
            } else {
                due.isTrue(m + " is private", Modifier.isPrivate(m.getModifiers()));
            }
        }
        Set<String> missing = new TreeSet<>(Arrays.asList(FACE));
        missing.removeAll(found);
        found.removeAll(Arrays.asList(FACE));
        due.is("missing from the face: " + missing, missing.size(), 0);
        due.is("too much in the face: " + found, found.size(), 0);
        for (Field f : TenYards.class.getDeclaredFields()) {
            due.isTrue(f + " is private", Modifier.isPrivate(f.getModifiers()));
        }
    }

    private static String told(Method m) {
        StringBuilder text = new StringBuilder(m.getReturnType() + " " + m.getName() + "(");
        String comma = "";
        for (Class<?> type : m.getParameterTypes()) {
            text.append(comma).append(type);
            comma = ", ";
        }
        text.append(")");
        String ahead = " throws ";
        for (Class<?> type : m.getExceptionTypes()) {
            text.append(ahead).append(type.getSimpleName());
            ahead = " ";
        }
        return text.toString();
    }

    private static void classesInside() {
        Set<String> names = new TreeSet<>();
        for (String told : FACE) {
            names.add(told.substring(told.indexOf(' ') + 1, told.indexOf('(')));
        }
        Class<?>[] inside = TenYards.class.getDeclaredClasses();
        due.isTrue("at most twelve classes, but they are " + (inside.length + 1), inside.length + 1 <= 12);
        for (Class<?> c : inside) {
            due.isTrue(c + " is static", Modifier.isStatic(c.getModifiers()));
            due.isTrue(c + " is inside only", !Modifier.isPublic(c.getModifiers()) && !Modifier.isProtected(c.getModifiers()));
            due.isTrue(c + " has few fields", Arrays.stream(c.getDeclaredFields())
                    .filter(f -> !Modifier.isStatic(f.getModifiers())).count() <= 20);
            looksFine(c, names);
        }
        looksFine(TenYards.class, names);
    }

    private static void looksFine(Class<?> c, Set<String> names) {
        for (Method m : c.getDeclaredMethods()) {
            due.isTrue(m + " takes at most seven", m.getParameterCount() <= 7);
            boolean isFace = c == TenYards.class && Modifier.isPublic(m.getModifiers());
            due.isTrue(m + " has a name of its own", isFace || !names.contains(m.getName()));
        }
        for (Field f : c.getDeclaredFields()) {
            int modifiers = f.getModifiers();
            due.isTrue(f + " is no changing state of all", !Modifier.isStatic(modifiers) || Modifier.isFinal(modifiers));
        }
    }

    private static void source(String text) {
        String bare = text.replaceAll("(?s)/\\*.*?\\*/", "").replaceAll("//.*", "");
        String[] words = {"import", "package", "finally", "synchronized", "assert", "float", "double", "getMessage",
            "hashCode", "toString", "Random", "Thread", "System\\.(?!arraycopy)", "->", "::", "\\w+Exact\\(", "native",
            "ArrayIndexOutOfBoundsException", "NullPointerException", "ArithmeticException", "ClassCastException",
            "NegativeArraySizeException", "ArrayStoreException", "RuntimeException", "Exception\\s+\\w+\\s*\\|",
            "catch \\((?!(IllegalStateException|UnsupportedOperationException|IllegalArgumentException) )"};
        for (String word : words) {
            Matcher m = Pattern.compile(Character.isLetter(word.charAt(0)) ? "\\b" + word : word).matcher(bare);
            due.isTrue("the source has " + word, !m.find());
        }
        due.isTrue("the source is plain text", text.chars().allMatch(c -> c == '\n' || c >= 32 && c < 127));
        methodsAreShort(text);
    }

    private static void methodsAreShort(String text) {
        String[] lines = text.split("\n");
        Pattern head = Pattern.compile("^( +)(?! |case|if|for|while|switch|try|\\})[\\w\\[\\] ]+\\(.*\\).*\\{$");
        for (int i = 0; i < lines.length; i++) {
            Matcher m = head.matcher(lines[i]);
            if (m.matches()) {
                int end = i;
                while (end < lines.length && !lines[end].equals(m.group(1) + "}")) {
                    end++;
                }
                due.isTrue("short: " + lines[i].trim(), end - i + 1 <= 60);
            }
        }
    }
}
