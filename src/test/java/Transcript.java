import java.util.ArrayList;
import java.util.List;
import java.util.function.Supplier;

/**
 * All that a finder tells, as a text: finders in the same state have the same. Telling it uses the
 * finder up: its pile, its costs and its examples are taken down, as only this shows what lies below.
 */
final class Transcript {
    private static final List<Long> SOME_WORDS = someWords();

    private final PatternFinder finder;
    private final StringBuilder lines = new StringBuilder();

    private Transcript(PatternFinder finder) {
        this.finder = finder;
    }

    static String of(PatternFinder finder) {
        Transcript transcript = new Transcript(finder);
        transcript.examples();
        transcript.found();
        transcript.pile();
        transcript.nextLooks();
        transcript.costs();
        transcript.fewerExamples();
        return transcript.lines.toString();
    }

    /** The first answer in which two of them differ. */
    static String difference(String got, String due) {
        String[] gotLines = got.split("\n");
        String[] dueLines = due.split("\n");
        for (int line = 0; line < gotLines.length && line < dueLines.length; line++) {
            if (!gotLines[line].equals(dueLines[line])) {
                return "line " + line + " tells " + gotLines[line] + " for " + dueLines[line];
            }
        }
        return gotLines.length == dueLines.length ? "none" : "one tells more than the other";
    }

    /** All short words, and some long ones. */
    private static List<Long> someWords() {
        List<Long> some = new ArrayList<>();
        for (int place = 0; place < Reference.ALL_WORDS.size(); place += place < 40 ? 1 : 29) {
            some.add(Reference.number(Reference.ALL_WORDS.get(place)));
        }
        return some;
    }

    private void examples() {
        tell("digest", finder::digest);
        tell("examples", finder::exampleCount);
        for (int example = 0; example < finder.exampleCount(); example++) {
            int which = example;
            tell("word", () -> finder.example(which));
            tell("good", () -> finder.isGood(which));
        }
        tell("pieces", finder::pieceCount);
        for (int piece = 0; piece < finder.pieceCount(); piece++) {
            int which = piece;
            tell("piece", () -> finder.piece(which));
        }
    }

    private void found() {
        tell("kept", finder::kept);
        tell("found", finder::isFound);
        tell("nodes", finder::nodeCount);
        tell("size", finder::textSize);
        tell("first", finder::first);
        tell("share", finder::share);
        for (int length = 0; finder.isFound() && length <= 6; length++) {
            int letters = length;
            tell("count", () -> finder.count(letters));
        }
        for (int node = 0; finder.isFound() && node < finder.nodeCount(); node++) {
            int which = node;
            tell("kind", () -> finder.kind(which));
            tell("p", () -> finder.part(which, false));
            tell("q", () -> finder.part(which, true));
        }
        for (int index = 0; finder.isFound() && index < finder.textSize(); index++) {
            int which = index;
            tell("sign", () -> finder.text(which));
        }
        for (long word : SOME_WORDS) {
            tell("matches", () -> finder.matches(word));
        }
    }

    private void pile() {
        boolean isEmpty = false;
        for (int pattern = 0; !isEmpty && pattern < 20; pattern++) {
            tell("cost", finder::topCost);
            tell("wrong", finder::topWrong);
            for (long word : SOME_WORDS) {
                tell("top matches", () -> finder.topMatches(word));
            }
            isEmpty = tell("pop", finder::pop).startsWith("class");
        }
        tell("take", finder::take);
        tell("wrap", () -> finder.wrap(4));
        tell("cost", finder::topCost);
    }

    private void nextLooks() {
        for (int most : new int[] {60, 3}) {
            tell("look", () -> finder.look(most));
            tell("kept", finder::kept);
            tell("digest", finder::digest);
        }
    }

    private void costs() {
        for (int kind = 0; kind < 7; kind++) {
            int which = kind;
            tell("cost before", () -> finder.setCost(which, 1));
        }
    }

    private void fewerExamples() {
        boolean isEmpty = false;
        for (int example = 0; !isEmpty && example < 20; example++) {
            isEmpty = tell("drop", finder::drop).startsWith("class");
            tell("pieces", finder::pieceCount);
            tell("digest", finder::digest);
        }
    }

    private String tell(String what, Supplier<Object> call) {
        String answer = Checks.outcome(call).toString();
        lines.append(what).append(' ').append(answer).append('\n');
        return answer;
    }
}
