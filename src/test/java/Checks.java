import java.util.function.Function;
import java.util.function.Supplier;

/** What the tests by hand share: asking a call, comparing its answer, and making finders ready for it. */
abstract class Checks {
    static final Class<?> STATE = IllegalStateException.class;
    static final Class<?> ARGUMENT = IllegalArgumentException.class;
    static final Class<?> INDEX = IndexOutOfBoundsException.class;
    static final int LEAST = Integer.MIN_VALUE;
    static final int GREATEST = Integer.MAX_VALUE;

    private static int asked = 0;
    private static int wrong = 0;

    static void due(int promise, String what, Object got, Object want) {
        asked++;
        if (!got.equals(want)) {
            wrong++;
            System.out.println("promise " + promise + ", " + what + ": answered " + got + ", due is " + want);
        }
    }

    /** The answer of a call, or the class of the exception that it throws. */
    static Object outcome(Supplier<Object> call) {
        try {
            return call.get();
        } catch (RuntimeException e) {
            StackTraceElement[] trace = e.getStackTrace();
            boolean isOwn = trace.length > 0 && trace[0].getClassName().startsWith("PatternFinder");
            return isOwn ? e.getClass() : "an exception that the class did not throw: " + e;
        }
    }

    /** The call must throw this exception, and must leave the finder as one is on which it was not made. */
    static void refused(int promise, String what, Supplier<PatternFinder> made,
            Function<PatternFinder, Object> call, Class<?> exception) {
        PatternFinder x = made.get();
        due(promise, what, outcome(() -> call.apply(x)), exception);
        String left = Transcript.difference(Transcript.of(x), Transcript.of(made.get()));
        due(promise, what + ": what it changed", left, "none");
    }

    /** Tells what was asked, and ends the run with exit code 1 if an answer was wrong. */
    static void end(String name) {
        System.out.println(name + ": " + asked + " answers, " + wrong + " wrong");
        if (wrong != 0) {
            System.exit(1);
        }
    }

    /** A word as its number. */
    static long w(String word) {
        long number = 0;
        for (int index = 0; index < word.length(); index++) {
            number = number << 8 | word.charAt(index);
        }
        return number;
    }

    /** A finder with these examples; a blank parts two words, and a text without bad words is none. */
    static PatternFinder finder(String good, String bad) {
        PatternFinder x = new PatternFinder();
        for (String word : good.split(" ", -1)) {
            x.add(w(word), true);
        }
        for (String word : bad.isEmpty() ? new String[0] : bad.split(" ", -1)) {
            x.add(w(word), false);
        }
        return x;
    }

    /** The same with costs of the kinds, from NOTHING on. */
    static PatternFinder finder(String good, String bad, int... costs) {
        PatternFinder x = finder(good, bad);
        for (int kind = 0; kind < costs.length; kind++) {
            x.setCost(kind, costs[kind]);
        }
        return x;
    }

    static PatternFinder found(String good, String bad, int... costs) {
        PatternFinder x = finder(good, bad, costs);
        if (x.look(60) < 1) {
            due(11, "a pattern for " + good, "none", "one");
        }
        return x;
    }

    static String text(PatternFinder x) {
        StringBuilder text = new StringBuilder();
        for (int index = 0; index < x.textSize(); index++) {
            text.append((char) x.text(index));
        }
        return text.toString();
    }

    /**
     * Puts patterns on the pile, a call for each sign: 0, 1 and letters are pushed, ? and * wrap
     * the one on top, a full stop makes a CHAIN of two and a stroke an EITHER.
     */
    static PatternFinder build(PatternFinder x, String signs) {
        for (char sign : signs.toCharArray()) {
            switch (sign) {
                case '0': x.push(0, 0); break;
                case '1': x.push(1, 0); break;
                case '?': x.wrap(3); break;
                case '*': x.wrap(4); break;
                case '.': x.join(5); break;
                case '|': x.join(6); break;
                default: x.push(2, sign); break;
            }
        }
        return x;
    }

    static PatternFinder built(String signs) {
        return build(new PatternFinder(), signs);
    }

    static void wrapTimes(PatternFinder x, int times) {
        build(x, "*".repeat(times));
    }
}
