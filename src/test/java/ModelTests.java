import java.lang.reflect.InvocationTargetException;
import java.lang.reflect.Method;
import java.util.HashMap;
import java.util.Map;
import java.util.Random;

/** Runs of drawn calls, good ones and bad ones, on the class and on the model side by side. */
public final class ModelTests {
    private static final int RUNS = 700;
    private static final int CALLS = 500;
    private static final Due due = new Due();

    /**
     * The calls with what their numbers are drawn from: F a FALLER, X a PLACE, D a SHELF, Z any number, B a boolean,
     * others a range. Behind the name the refusals' base, and how seldom a dear call is made.
     */
    private static final String[] CALLS_TOLD = {
        "air 0 1 D", "wind 1 1 0:9 B", "set 0 4 0:2 S", "faller 0 1 F 0:5", "drift 1 1 F -120:120",
        "steers 1 1 F X X 0:9 B", "barred 0 1 X X", "fall 1 1 F X X 0:4", "fallBy 1 1 F X X Z 0:4",
        "at 1 1 F X X 0:400 0:2", "mean 1 1 F X X B", "exit 1 20 F 0:2", "load 0 1 L X X 1:20 0:60000",
        "bestLoad 1 10 L X 0:60000 0:2", "order 0 8 L X X 1:20 0:1", "cone 0 20 F 1:3000 0:60000",
        "steering 0 1 F X X 0:1", "last 0 1 F", "safe 1 2 X X 0:1", "within 0 2 F X X 0:60000 1:20 Z",
        "stop 0 8 F X X 0:60000 1:20 Z", "knew 1 1 F F X X", "two 0 1 F F 1:20 X X", "habits 0 1 H X X X X 0:9999",
        "crates 0 1 1:5 X X Z", "judge 0 2 F X D", "image 0 4", "restore 0 6", "count 0 1 0:5", "keep 0 1 D 0:1 F",
        "row 0 2 D 0:2 0:100", "put 0 1 D 0:40 Z", "element 2 1 D 0:40", "copy 0 1 D 0:20 D 0:20 0:20",
        "care 0 1 D", "toss 0 1 D"};

    private final Random draws;
    /** One number of so many is drawn from outside its range. */
    private final int oddOneOf;
    private final Map<String, Method> ofClass = new HashMap<>();
    private final Map<String, Method> ofModel = new HashMap<>();
    private TenYards real;
    private Model model;
    private String trail = "";

    private ModelTests(long seed) {
        draws = new Random(seed);
        oddOneOf = seed % 8 == 0 ? 4 : 60;
        for (Method m : TenYards.class.getDeclaredMethods()) {
            ofClass.put(m.getName() + m.getParameterCount(), m);
        }
        for (Method m : Model.class.getDeclaredMethods()) {
            if (!m.isSynthetic() && !java.lang.reflect.Modifier.isPrivate(m.getModifiers())) {
                m.setAccessible(true);
                ofModel.put(m.getName() + m.getParameterCount(), m);
            }
        }
    }

    public static void main(String[] args) throws Exception {
        long first = args.length > 0 ? Long.parseLong(args[0]) : 20261117L;
        int runs = args.length > 1 ? Integer.parseInt(args[1]) : RUNS;
        for (int run = 0; run < runs; run++) {
            new ModelTests(first + run).run();
        }
        due.end();
    }

    private void run() throws Exception {
        real = new TenYards();
        model = new Model();
        writeText();
        int calls = 0;
        while (calls < CALLS) {
            if (draws.nextInt(25) == 0) {
                calls += writeText();
            } else if (draws.nextInt(30) == 0) {
                calls += writeLoad();
            } else if (draws.nextInt(60) == 0) {
                calls += writeOffs();
            } else {
                calls += drawCall();
            }
        }
    }

    private int drawCall() throws Exception {
        String[] told = CALLS_TOLD[draws.nextInt(CALLS_TOLD.length)].split(" ");
        if (draws.nextInt(Integer.parseInt(told[2])) != 0) {
            return 0;
        }
        Object[] numbers = new Object[told.length - 3];
        for (int i = 0; i < numbers.length; i++) {
            numbers[i] = draw(told[i + 3]);
        }
        ask(told[0], Integer.parseInt(told[1]), numbers);
        return 1;
    }

    private void ask(String name, int base, Object... numbers) throws Exception {
        String key = name + numbers.length;
        String got = answer(ofClass.get(key), real, numbers, 0);
        Object[] forModel = name.equals("drift") ? new Object[] {numbers[0], numbers[1], null} : numbers;
        String want = answer(ofModel.get(name + forModel.length), model, forModel, base == 1 ? -1000000000 : 0);
        due.isTrue(name + java.util.Arrays.toString(numbers) + " answered " + got + ", the model " + want + trail,
                got.equals(want));
    }

    private static String answer(Method m, Object on, Object[] numbers, int base) throws IllegalAccessException {
        try {
            return String.valueOf(((Number) m.invoke(on, numbers)).longValue());
        } catch (InvocationTargetException e) {
            if (e.getCause() instanceof Model.Refusal r) {
                return String.valueOf(base + r.number);
            }
            return "throws " + e.getCause().getClass().getName();
        }
    }

    private Object draw(String from) {
        switch (from) {
            case "B": return draws.nextBoolean();
            case "Z": return draws.nextInt(3) == 0 ? draws.nextInt(300) - 150 : draws.nextInt();
            case "F": return drawFrom(0, Math.max(0, model.count(0) - 1));
            case "D": return drawFrom(0, 7);
            case "L": return draws.nextInt(4) == 0 ? drawFrom(0, 7) : 6;
            case "X": return drawPlace();
            case "H": return 100 * drawFrom(0, 9) + drawFrom(0, 20);
            case "S": return draws.nextInt(3) == 0 ? drawFrom(300, 3000) : drawFrom(0, draws.nextBoolean() ? 30 : 900);
            default:
                String[] ends = from.split(":");
                return drawFrom(Integer.parseInt(ends[0]), Integer.parseInt(ends[1]));
        }
    }

    private int drawPlace() {
        int size = draws.nextInt(10);
        if (size == 0) {
            return drawFrom(-30000, 30000);
        }
        return size < 4 ? drawFrom(-300, 300) : size < 8 ? drawFrom(-3000, 3000) : 1000 * drawFrom(-30, 30);
    }

    private int drawFrom(int least, int most) {
        if (draws.nextInt(oddOneOf) == 0) {
            int[] odd = {least - 1, most + 1, -1, Integer.MIN_VALUE, Integer.MAX_VALUE, least - 100, most + 100};
            return odd[draws.nextInt(odd.length)];
        }
        if (draws.nextInt(10) == 0) {
            return draws.nextBoolean() ? least : most;
        }
        // Half of the numbers of a wide range are small, so that counts within come out between none and all.
        if (most > 2000 && draws.nextBoolean()) {
            return least + draws.nextInt(most / 20);
        }
        return least + draws.nextInt(most - least + 1);
    }

    // ---- texts of AIRS, some of them spoilt

    private int writeText() throws Exception {
        StringBuilder text = new StringBuilder();
        int statements = 1 + draws.nextInt(12);
        for (int i = 0; i < statements; i++) {
            String more = statement();
            if (text.length() + more.length() <= 100) {
                text.append(more);
            }
        }
        if (draws.nextInt(4) == 0) {
            spoil(text);
        }
        if (text.length() > 100) {
            text.setLength(100);
        }
        trail = " with " + text;
        int d = draws.nextInt(8);
        ask("row", 0, d, 0, text.length());
        for (int i = 0; i < text.length(); i++) {
            real.put(d, i, text.charAt(i));
            model.put(d, i, text.charAt(i));
        }
        ask("air", 0, d);
        return text.length() + 2;
    }

    private void spoil(StringBuilder text) {
        String signs = "lgafb+- ;0123456789z";
        int at = draws.nextInt(text.length());
        char sign = draws.nextInt(30) == 0 ? (char) draws.nextInt(256) : signs.charAt(draws.nextInt(signs.length()));
        switch (draws.nextInt(4)) {
            case 0: text.setCharAt(at, sign); break;
            case 1: text.insert(at, sign); break;
            case 2: text.deleteCharAt(at); break;
            default: text.setLength(at); break;
        }
    }

    private String statement() {
        boolean wild = draws.nextInt(80) == 0;
        switch (draws.nextInt(9)) {
            case 0: case 1: case 2:
                return "l" + draws.nextInt(draws.nextBoolean() ? 10 : 4) + signed(wild ? 95 : 90) + signed(90) + ";";
            case 3: return "g" + draws.nextInt(wild ? 60 : 31) + ";";
            case 4: return "a" + draws.nextInt(901) + " " + (wild ? draws.nextInt(4000) : 300 + draws.nextInt(2701)) + ";";
            case 5: case 6: case 7:
                return "f" + draws.nextInt(wild ? 10 : 8) + draws.nextInt(10) + " " + draws.nextInt(wild ? 30 : 21) + ";";
            default:
                int size = draws.nextBoolean() ? 200 : wild ? 4000 : 3000;
                return "b" + signed(size) + signed(size) + signed(size) + signed(size) + ";";
        }
    }

    private String signed(int most) {
        return (draws.nextBoolean() ? "+" : "-") + draws.nextInt(most + 1);
    }

    // ---- ROWS that LOADS and JUDGED are about

    private int writeLoad() throws Exception {
        int n = draws.nextInt(20) == 0 ? draws.nextInt(8) : 1 + draws.nextInt(5);
        ask("row", 0, 6, 0, n);
        for (int i = 0; i < n; i++) {
            ask("put", 0, 6, i, draw("F"));
        }
        return n + 1;
    }

    private int writeOffs() throws Exception {
        int fallers = model.count(0);
        if (fallers == 0) {
            return 0;
        }
        int faller = draws.nextInt(fallers);
        int y = draws.nextInt(6001) - 3000;
        int n = draws.nextInt(32);
        int sort = draws.nextInt(3);
        ask("row", 0, 5, sort, n);
        for (int i = 0; i < n; i++) {
            int off = model.fall(faller, i * 1000, y, 3);
            ask("put", 0, 5, i, draws.nextInt(9) == 0 ? (sort == 1 ? 32768 : Integer.MIN_VALUE) : off);
        }
        ask("judge", 0, faller, y, 5);
        if (n > 0) {
            int i = draws.nextInt(n);
            ask("put", 0, 5, i, model.fall(faller, i * 1000, y, 3) + 1);
            ask("judge", 0, faller, y, 5);
        }
        return n + 4;
    }
}
