import java.util.LinkedHashMap;
import java.util.Map;

/** Calls that only ask change nothing: FALLS are in mind, so each question is answered alike behind any other one. */
public final class QuestionTests {
    private static final Due due = new Due();
    private static final Map<String, Meadow.Call> QUESTIONS = new LinkedHashMap<>();

    public static void main(String[] args) {
        airsAndFalls();
        exitsAndWhatCanBeHad();
        seedsAndCrates();
        shelves();
        QUESTIONS.forEach(QuestionTests::changesNothing);
        due.end();
    }

    private static void changesNothing(String name, Meadow.Call question) {
        TenYards asked = Meadow.full();
        question.ask(asked);
        due.isTrue(name + " changes nothing", Meadow.isUntouched(asked));
        QUESTIONS.forEach((next, call) -> {
            TenYards x = Meadow.full();
            question.ask(x);
            due.is(next + " behind " + name, call.ask(x), call.ask(Meadow.full()));
        });
    }

    private static void airsAndFalls() {
        QUESTIONS.put("3 wind", x -> x.wind(0, true));
        QUESTIONS.put("5 faller", x -> x.faller(6, 5));
        QUESTIONS.put("6 drift", x -> x.drift(2, 99));
        QUESTIONS.put("7 steers", x -> x.steers(5, 900, 900, 1, true));
        QUESTIONS.put("8 barred", x -> x.barred(500, 500));
        QUESTIONS.put("9 fall, x", x -> x.fall(0, 900, -700, 0));
        QUESTIONS.put("9 fall, y", x -> x.fall(2, 900, -7000, 1));
        QUESTIONS.put("9 fall, SECONDS", x -> x.fall(3, 900, -7000, 2));
        QUESTIONS.put("10 fallBy", x -> x.fallBy(4, 8000, -70, 12345, 3));
        QUESTIONS.put("11 at", x -> x.at(6, 8000, -70, 50, 0));
        QUESTIONS.put("12 mean", x -> x.mean(0, 8000, -70, false));
    }

    private static void exitsAndWhatCanBeHad() {
        QUESTIONS.put("13 exit", x -> x.exit(2, 2));
        QUESTIONS.put("14 load", x -> x.load(Meadow.CREW, -4000, 100, 5, 900));
        QUESTIONS.put("15 bestLoad", x -> x.bestLoad(Meadow.CREW, 100, 900, 0));
        QUESTIONS.put("16 order", x -> x.order(Meadow.CREW, -4000, 100, 5, 1));
        QUESTIONS.put("17 cone", x -> x.cone(0, 1000, 900));
        QUESTIONS.put("18 steering", x -> x.steering(2, 3000, -3000, 1));
        QUESTIONS.put("19 last", x -> x.last(3));
        QUESTIONS.put("20 safe", x -> x.safe(10, 20, 0));
    }

    private static void seedsAndCrates() {
        QUESTIONS.put("21 within", x -> x.within(1, -900, 0, 300, 20, 7));
        QUESTIONS.put("22 stop", x -> x.stop(1, -900, 0, 300, 20, 7));
        QUESTIONS.put("23 knew", x -> x.knew(0, 1, 3000, 500));
        QUESTIONS.put("24 two", x -> x.two(1, 7, 3, 0, 0));
        QUESTIONS.put("25 habits", x -> x.habits(203, 100, 100, 900, 0, 500));
        QUESTIONS.put("26 crates", x -> x.crates(5, 0, 0, 7));
        QUESTIONS.put("27 judge", x -> x.judge(0, 0, Meadow.INTS));
        QUESTIONS.put("30 count", x -> x.count(3));
    }

    private static void shelves() {
        QUESTIONS.put("34 element", x -> x.element(Meadow.SHORTS, 2));
        QUESTIONS.put("36 care", x -> x.care(Meadow.A_FALLER));
        QUESTIONS.put("37 toss", x -> x.toss(Meadow.A_FALLER));
    }
}
