import java.util.ArrayList;
import java.util.LinkedHashMap;
import java.util.List;
import java.util.Map;
import java.util.function.Function;
import java.util.function.Supplier;

/**
 * Every call with arguments inside and beyond their ranges, on finders in many states: a call that
 * throws, and one that only asks, leaves the finder as one is on which it was not made.
 */
public final class NothingChangedTest extends Checks {
    private static final int[] NUMBERS = {LEAST, -1, 0, 1, 2, 3, 4, 5, 6, 7, 9, 10, 11, 12, 13, 59, 60, 61, 96, 97,
        99, 100, GREATEST};
    private static final String[] SIXTY = {"cacbba", "ccbcab", "cbccab", "acbcac", "acacca", "cccabc"};

    private static final Map<String, Function<PatternFinder, Object>> QUESTIONS = new LinkedHashMap<>();
    private static final Map<String, Function<PatternFinder, Object>> CHANGES = new LinkedHashMap<>();

    private static int refusals = 0;

    public static void main(String[] args) {
        listQuestions();
        listChanges();
        for (Supplier<PatternFinder> state : states()) {
            String before = Transcript.of(state.get());
            for (Map.Entry<String, Function<PatternFinder, Object>> entry : QUESTIONS.entrySet()) {
                check(entry.getKey(), state.get(), entry.getValue(), before, true);
            }
            for (Map.Entry<String, Function<PatternFinder, Object>> entry : CHANGES.entrySet()) {
                check(entry.getKey(), state.get(), entry.getValue(), before, false);
            }
        }
        due(31, "many calls were refused", refusals > 1000, true);
        end("NothingChangedTest");
    }

    private static void check(String call, PatternFinder x, Function<PatternFinder, Object> made, String before,
            boolean isQuestion) {
        Object answer = outcome(() -> made.apply(x));
        boolean isRefused = answer.equals(STATE) || answer.equals(ARGUMENT) || answer.equals(INDEX);
        if (!isRefused) {
            due(31, call + " answers or throws what the document names", answer instanceof Number
                    || answer instanceof Boolean, true);
        }
        if (isRefused || isQuestion) {
            refusals += isRefused ? 1 : 0;
            due(31, "what " + call + " changed", Transcript.difference(Transcript.of(x), before), "none");
        }
    }

    private static List<Supplier<PatternFinder>> states() {
        List<Supplier<PatternFinder>> states = new ArrayList<>();
        states.add(PatternFinder::new);
        states.add(() -> build(found("b ab aab", "a ", 1, 2, 1, 3, 1, 1, 4), "ab.c?"));
        states.add(() -> build(found("aaaaaa  aaaaa aa", "aaaa a", 1, 1, 1, 9, 9, 1, 1), "01abc01abc01"));
        states.add(() -> {
            PatternFinder x = found("a b c aa ab ac ba bb bc ", "");
            x.take();
            return build(x, "b" + "*".repeat(59));
        });
        states.add(() -> withLook(finder("babbc", "b", 1, 1, 1, 1, 1, 1, 1), 60));
        states.add(() -> withLook(finder("b ab aab", "a ", 9, 1, 3, 1, 1, 2, 1), 3));
        states.add(() -> build(finder("a bc", "b", 9, 8, 7, 6, 5, 4, 3), "a" + "*".repeat(29) + "b" + "?".repeat(29)));
        states.add(() -> build(withLook(sixty(), 1), "a"));
        states.add(() -> {
            PatternFinder x = withLook(sixty(), 1);
            x.drop();
            x.add(w("aaaab"), true);
            return x;
        });
        states.add(() -> build(withLook(new PatternFinder(), 5), "ab|"));
        return states;
    }

    private static PatternFinder withLook(PatternFinder x, int most) {
        x.look(most);
        return x;
    }

    /** 60 pieces, all of bad examples. */
    private static PatternFinder sixty() {
        PatternFinder x = new PatternFinder();
        for (String word : SIXTY) {
            x.add(w(word), false);
        }
        return x;
    }

    private static long[] words() {
        return new long[] {0, w("a"), w("ab"), w("bbbbbb"), w("aaac"), w("cccabc"), w("ab") << 40, w("aaaaaaa"), -1,
            100, 96, Long.MIN_VALUE};
    }

    private static void listQuestions() {
        QUESTIONS.put("exampleCount", PatternFinder::exampleCount);
        QUESTIONS.put("pieceCount", PatternFinder::pieceCount);
        QUESTIONS.put("kept", PatternFinder::kept);
        QUESTIONS.put("isFound", PatternFinder::isFound);
        QUESTIONS.put("nodeCount", PatternFinder::nodeCount);
        QUESTIONS.put("textSize", PatternFinder::textSize);
        QUESTIONS.put("first", PatternFinder::first);
        QUESTIONS.put("share", PatternFinder::share);
        QUESTIONS.put("topCost", PatternFinder::topCost);
        QUESTIONS.put("topWrong", PatternFinder::topWrong);
        QUESTIONS.put("digest", PatternFinder::digest);
        for (int number : NUMBERS) {
            QUESTIONS.put("example " + number, x -> x.example(number));
            QUESTIONS.put("isGood " + number, x -> x.isGood(number));
            QUESTIONS.put("piece " + number, x -> x.piece(number));
            QUESTIONS.put("kind " + number, x -> x.kind(number));
            QUESTIONS.put("p of " + number, x -> x.part(number, false));
            QUESTIONS.put("q of " + number, x -> x.part(number, true));
            QUESTIONS.put("text " + number, x -> x.text(number));
            QUESTIONS.put("count " + number, x -> x.count(number));
        }
        for (long word : words()) {
            QUESTIONS.put("matches " + word, x -> x.matches(word));
            QUESTIONS.put("topMatches " + word, x -> x.topMatches(word));
        }
    }

    private static void listChanges() {
        CHANGES.put("drop", PatternFinder::drop);
        CHANGES.put("take", PatternFinder::take);
        CHANGES.put("pop", PatternFinder::pop);
        for (long word : words()) {
            CHANGES.put("add good " + word, x -> x.add(word, true));
            CHANGES.put("add bad " + word, x -> x.add(word, false));
        }
        for (int number : NUMBERS) {
            CHANGES.put("mark good " + number, x -> x.mark(number, true));
            CHANGES.put("mark bad " + number, x -> x.mark(number, false));
            CHANGES.put("look " + number, x -> x.look(number));
            CHANGES.put("wrap " + number, x -> x.wrap(number));
            CHANGES.put("join " + number, x -> x.join(number));
            CHANGES.put("cost " + number + " of kind 0", x -> x.setCost(0, number));
            CHANGES.put("cost 5 of kind " + number, x -> x.setCost(number, 5));
            CHANGES.put("cost 10 of kind " + number, x -> x.setCost(number, 10));
            CHANGES.put("push letter " + number, x -> x.push(2, number));
            CHANGES.put("push kind " + number, x -> x.push(number, 97));
            CHANGES.put("push kind " + number + " and 100", x -> x.push(number, 100));
        }
    }
}
