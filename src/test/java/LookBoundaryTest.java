import java.util.List;
import java.util.function.Function;
import java.util.function.Supplier;

/**
 * The boundaries that "Patterns" and "Looking" in the document's description name, and those of
 * promises 11 to 22: just inside, just beyond, and what a refused call leaves.
 */
public final class LookBoundaryTest extends Checks {
    private static final int[] NODES_COSTS = {1, 1, 1, 9, 9, 1, 1};

    public static void main(String[] args) {
        rangeOfMost();
        justCheapEnough();
        sixtyAndSixtyOne();
        orderOfKinds();
        orderOfParts();
        sameTables();
        partsThatAreKept();
        hundredAndTwentyKept();
        noMorePatterns();
        sixtyPieces();
        keptBetweenLooks();
        callsThatForget();
        callsThatDoNotForget();
        nothingFound();
        nodes();
        nodesWithOneKindEach();
        nodeNumbers();
        texts();
        textIndexes();
        matching();
        counting();
        firstWords();
        shares();
        looksDoNotMixUp();
        fiveHundredAndTwelveCalls();
        end("LookBoundaryTest");
    }

    /** a*b is found, at a cost of 4. */
    private static PatternFinder foundStarB() {
        return build(found("b ab aab", "a "), "c0");
    }

    private static PatternFinder looked(PatternFinder x, int most, int answer) {
        due(11, "look(" + most + ")", x.look(most), answer);
        due(13, "found by look(" + most + ")", x.isFound(), answer > 0);
        return x;
    }

    private static PatternFinder overfull() {
        return looked(finder("babbc", "b"), 60, -2);
    }

    private static PatternFinder tooCheap() {
        return looked(finder("b ab aab", "a "), 3, -1);
    }

    // ---- look: most is 1 to 60

    private static void rangeOfMost() {
        List<Supplier<PatternFinder>> states = List.of(PatternFinder::new, LookBoundaryTest::foundStarB,
                LookBoundaryTest::overfull, LookBoundaryTest::tooCheap, () -> finder("a", "b"));
        for (int most : new int[] {LEAST, -60, -1, 0, 61, 62, 256 + 20, GREATEST}) {
            for (Supplier<PatternFinder> state : states) {
                refused(11, "look(" + most + ")", state, x -> x.look(most), ARGUMENT);
            }
        }
        for (int most = 1; most <= 60; most++) {
            looked(finder("b ab aab", "a "), most, most < 4 ? -1 : 4);
        }
    }

    private static void justCheapEnough() {
        Object[][] cases = {
            {1, "0", finder("a", "")}, {1, "1", finder("", "a")}, {1, "c", finder("c", "")},
            {2, "a?", finder(" a", "")}, {3, "ab", finder("ab", "a b")}, {4, "a*b", finder("b ab aab", "a ")},
            {54, "(a(bc))*", finder("abcabc", "", 9, 9, 9, 9, 9, 9, 9)},
            {59, "a(a(a(aa?)))", finder("aaaaa aaaa", "aaa", 2, 6, 9, 2, 8, 3, 3)}};
        ((PatternFinder) cases[0][2]).mark(0, false);
        for (Object[] row : cases) {
            int cost = (Integer) row[0];
            PatternFinder x = (PatternFinder) row[2];
            if (cost > 1) {
                looked(x, cost - 1, -1);
            }
            looked(x, cost, cost);
            due(17, "found at " + cost, text(x), row[1]);
            looked(x, cost + 1, cost);
            due(17, "found below " + (cost + 1), text(x), row[1]);
            due(26, "on the pile", x.take(), 1);
            due(28, "its cost", x.topCost(), cost);
        }
    }

    private static void sixtyAndSixtyOne() {
        PatternFinder x = finder("aaaaaa ", "aaa aaaa", 1, 9, 9, 1, 1, 1, 9);
        looked(x, 59, -1);
        looked(x, 60, 60);
        due(17, "60", text(x), "(a(a(a(a(aa)))))?");
        x.setCost(3, 2);
        looked(x, 59, -1);
        looked(x, 60, 60);
        due(17, "60", text(x), "(a(a(a(a(aa)))))*");
        x.setCost(4, 2);
        looked(x, 60, -1);
        due(12, "all up to 60", x.kept() < 120, true);
    }

    // ---- the order of patterns; what comes first is kept first, so that kept() shows the order too

    private static void orderOfKinds() {
        ordered("NOTHING ahead of EMPTY", new PatternFinder(), "0", 1);
        ordered("EMPTY ahead of LETTER", finder("", ""), "1", 2);
        PatternFinder noNothing = finder("", "", 9, 1, 1, 1, 1, 1, 1);
        noNothing.mark(0, false);
        ordered("EMPTY ahead of LETTER, but it is bad", noNothing, "a", 2);
        ordered("LETTER ahead of OPTION", finder("b", "", 1, 9, 2, 1, 9, 9, 9), "b", 2);
        ordered("a cheaper OPTION ahead of LETTER", finder("b", "", 1, 9, 3, 1, 9, 9, 9), "b", 3);
        ordered("OPTION ahead of REPEAT", finder("a ", "b"), "a?", 5);
        ordered("REPEAT ahead of CHAIN", finder("aa", "", 1, 1, 1, 1, 2, 1, 1), "a*", 5);
        ordered("a cheaper CHAIN ahead of REPEAT", finder("aa", "", 1, 1, 1, 1, 3, 1, 1), "aa", 5);
        ordered("CHAIN ahead of EITHER", finder("ab", "a b"), "ab", 7);
        ordered("a cheaper EITHER ahead of CHAIN", finder("ab", "a b", 1, 1, 1, 1, 1, 2, 1), "ab", 10);
        // the kind counts only where the costs are the same
        ordered("a cheap REPEAT", finder("a ", "b", 1, 1, 1, 2, 1, 1, 1), "a*", 5);
        ordered("a cheap EITHER", finder("a ", "b", 1, 1, 1, 3, 3, 3, 1), "1|a", 5);
        ordered("a cheap LETTER", finder("", "", 9, 2, 1, 9, 9, 9, 9), "1", 2);
    }

    private static void ordered(String what, PatternFinder x, String text, int kept) {
        due(11, what, x.look(60) > 0, true);
        due(11, what, text(x), text);
        due(12, what, x.kept(), kept);
    }

    private static void orderOfParts() {
        // LETTERs: the smaller letter; of those that are no pieces only one is kept, with the table of NOTHING
        ordered("a, then b", finder("b", "a c"), "b", 4);
        ordered("a, b, then c", finder("c", "a b"), "c", 5);
        ordered("no a and no b", finder("c", ""), "c", 3);
        // the p that comes first: cheaper, of a smaller kind, with a smaller letter
        due(11, "p cheaper: a(bc), not (ab)c", text(found("abc", " a b c ab bc")), "a(bc)");
        due(11, "p cheaper: aa?, not a?a", text(found("a aa", " b")), "aa?");
        due(11, "p of a smaller kind: a?b, not a*b", text(found("b ab", "a")), "a?b");
        due(11, "p of a smaller letter: a|b, not b|a", text(found("b a", " ab")), "a|b");
        due(11, "p of a smaller part: a?b?, not b?a?", text(found(" a b", "", 1, 1, 1, 1, 1, 1, 9)), "a?b?");
        due(11, "the dearer p behind: a|1", text(found("a ", "", 5, 2, 1, 8, 6, 5, 1)), "a|1");
        due(11, "the dearer p behind: 1|a", text(found("a ", "", 5, 1, 2, 8, 6, 5, 1)), "1|a");
        // the same p: the q that comes first
        due(11, "q of a smaller kind: ab?, not ab*", text(found("a ab", " b")), "ab?");
        due(11, "q of a smaller letter: a(b|c)", text(found("ab ac", " a b c")), "a(b|c)");
        due(11, "q of a smaller kind, at last", text(found("a ab abb", " b")), "ab*");
    }

    /** A pattern whose table another one has already is not kept; tables are those of pieces alone. */
    private static void sameTables() {
        PatternFinder x = finder("", "");
        x.mark(0, false);
        x.setCost(0, 2);
        looked(x, 1, 1);
        due(17, "no letter is a piece: a has the table of NOTHING", text(x), "a");
        due(12, "EMPTY and a", x.kept(), 2);
        PatternFinder all = finder("a", "", 2, 2, 9, 2, 2, 2, 2);
        looked(all, 8, -1);
        due(12, "NOTHING and EMPTY, and all else is the same", all.kept(), 2);
        looked(all, 9, 9);
        due(12, "a as well", all.kept(), 3);
        // aaa is no piece, so that aaa and NOTHING are the same, as are a* and a?a?
        ordered("all of the pieces", finder("a aa ", ""), "a*", 5);
        PatternFinder same = finder("aa", "a ", 1, 1, 1, 1, 1, 9, 1);
        looked(same, 10, -1);
        due(12, "nothing, empty, a, a? and a* alone", same.kept(), 5);
        looked(same, 11, 11);
        due(12, "and aa", same.kept(), 6);
    }

    /** At each cost, a part is one of the patterns that are kept by then, and cheap enough, and no other. */
    private static void partsThatAreKept() {
        // NOTHING is dear, so that a part that is not there would show as the table of no piece
        PatternFinder x = finder("a", "", 9, 1, 9, 9, 9, 1, 9);
        for (int most = 1; most <= 8; most++) {
            looked(x, most, -1);
            due(12, "EMPTY, and no CHAIN of it, up to " + most, x.kept(), 1);
        }
        looked(x, 9, 9);
        due(12, "NOTHING and a as well", x.kept(), 3);
        due(17, "a", text(x), "a");
    }

    // ---- 120 patterns kept and one more

    private static void hundredAndTwentyKept() {
        // the 120th is the first that is right
        PatternFinder x = finder("caccb", "");
        x.add(0, false);
        looked(x, 60, 6);
        due(12, "119 and the one that is found", x.kept(), 120);
        due(17, "the 120th", text(x), "(a|c)*b");
        looked(x, 5, -1);
        due(12, "few", x.kept(), 65);
        // the 121st would be the first that is right: (a|b)*c
        PatternFinder y = finder("babbc", "b");
        looked(y, 5, -1);
        due(12, "few", y.kept(), 65);
        looked(y, 6, -2);
        due(12, "120, and none more", y.kept(), 120);
        due(29, "(a|b)*c would be right", build(y, "ab|*c.").topWrong(), 0);
        due(28, "and cheap enough", y.topCost(), 6);
        // 120 are kept, and no more of this cost would have to be; then one more of the next cost
        PatternFinder z = finder("abc aac", "", 9, 1, 1, 1, 9, 1, 9);
        looked(z, 7, -1);
        due(12, "fewer than 120", z.kept() < 120, true);
        looked(z, 8, -1);
        due(12, "120, and that is all", z.kept(), 120);
        looked(z, 9, -2);
        due(12, "one more would have to be kept", z.kept(), 120);
        looked(z, 60, -2);
        due(12, "still 120", z.kept(), 120);
        refused(14, "nothing is found", LookBoundaryTest::overfull, PatternFinder::nodeCount, STATE);
    }

    private static void noMorePatterns() {
        PatternFinder x = finder("aaaaaa", " a aa aaa aaaa aaaaa", 9, 9, 9, 9, 9, 9, 9);
        looked(x, 60, -1);
        due(12, "not 120", x.kept() < 120, true);
        looked(x, 8, -1);
        due(12, "none at all", x.kept(), 0);
        looked(x, 9, -1);
        due(12, "NOTHING, EMPTY and a", x.kept(), 3);
        looked(x, 17, -1);
        due(12, "nothing costs 10 to 17", x.kept(), 3);
        looked(x, 18, -1);
        due(12, "a? and a*", x.kept(), 5);
    }

    /** The most pieces that there can be, the last of them among those that count. */
    private static void sixtyPieces() {
        PatternFinder x = finder("cacbba ccbcab cbccab acbcac acacca cccabc", "", 3, 8, 1, 1, 1, 5, 3);
        due(9, "pieces", x.pieceCount(), 60);
        looked(x, 9, -1);
        looked(x, 10, 10);
        due(17, "all words", text(x), "(a|(b|c))*");
        due(22, "all pieces", x.share(), 1.0);
        due(12, "kept", x.kept(), 115);
        PatternFinder y = finder("aaabab baabbb abaabb abbaaa aabbab bababb bbbaab aaaabb ababaa abbbbb", "");
        due(9, "pieces of ten", y.pieceCount(), 60);
        looked(y, 4, 4);
        due(17, "all words of two letters", text(y), "(a|b)*");
        due(22, "all pieces of ten", y.share(), 1.0);
        y.mark(6, false);
        due(10, "the bad one is the last piece", y.piece(59), w("bbbaab"));
        due(11, "no pattern is right", y.look(4), -1);
    }

    private static void keptBetweenLooks() {
        PatternFinder x = foundStarB();
        int kept = x.kept();
        due(12, "kept", kept > 0, true);
        outcome(() -> x.look(0));
        outcome(() -> x.look(61));
        due(12, "after a look that throws", x.kept(), kept);
        x.mark(0, true);
        x.setCost(0, 2);
        x.add(w("c"), true);
        x.drop();
        due(12, "after calls that forget", x.kept(), kept);
        looked(x, 1, -1);
        due(12, "EMPTY, a and b, and c, which has the table of NOTHING", x.kept(), 4);
    }

    // ---- until when what was found is known

    private static void callsThatForget() {
        forgets(2, "add", x -> x.add(w("c"), true));
        forgets(3, "mark", x -> x.mark(0, false));
        forgets(3, "mark that changes nothing", x -> x.mark(0, true));
        forgets(4, "drop", PatternFinder::drop);
        forgets(5, "setCost", x -> x.setCost(6, 2));
        forgets(5, "setCost that changes nothing", x -> x.setCost(6, 1));
        forgets(11, "a look that finds none", x -> x.look(3));
        PatternFinder x = foundStarB();
        x.mark(1, false);
        x.mark(2, false);
        looked(x, 60, 1);
        due(17, "another look finds another pattern", text(x), "b");
        due(14, "with another number of nodes", x.nodeCount(), 1);
        PatternFinder y = foundStarB();
        looked(y, 60, 4);
        due(17, "the same look again", text(y), "a*b");
    }

    private static void forgets(int promise, String what, Function<PatternFinder, Object> call) {
        PatternFinder x = foundStarB();
        due(promise, what + ": found", x.isFound(), true);
        Object answer = outcome(() -> call.apply(x));
        due(promise, what + " answers", answer instanceof Class, false);
        due(promise, what + " forgets", x.isFound(), false);
        due(promise, what + ": no nodes", outcome(x::nodeCount), STATE);
        due(promise, what + ": no text", outcome(() -> x.text(0)), STATE);
        due(promise, what + ": not on the pile", outcome(x::take), STATE);
        due(promise, what + ": the pile stays", x.pop(), 1);
    }

    private static void callsThatDoNotForget() {
        PatternFinder x = foundStarB();
        outcome(() -> x.add(w("ab"), false));
        outcome(() -> x.add(100, false));
        outcome(() -> x.mark(5, true));
        outcome(() -> x.setCost(7, 1));
        outcome(() -> x.setCost(6, 10));
        outcome(() -> x.look(61));
        x.exampleCount();
        x.example(0);
        x.isGood(0);
        x.pieceCount();
        x.piece(0);
        x.kept();
        x.matches(w("ab"));
        x.count(6);
        x.first();
        x.share();
        x.digest();
        x.push(2, 97);
        x.wrap(4);
        x.join(5);
        x.topCost();
        x.topMatches(0);
        x.topWrong();
        x.take();
        x.wrap(3);
        x.join(6);
        x.pop();
        x.pop();
        outcome(x::pop);
        due(13, "still found", x.isFound(), true);
        due(14, "its nodes", x.nodeCount(), 4);
        due(17, "its text", text(x), "a*b");
        PatternFinder none = new PatternFinder();
        outcome(none::drop);
        none.look(1);
        outcome(none::drop);
        due(13, "drop that throws does not forget", none.isFound(), true);
    }

    /** Without a pattern that is found, that is told first, whatever else is wrong. */
    private static void nothingFound() {
        Supplier<PatternFinder> forgotten = () -> {
            PatternFinder x = foundStarB();
            x.mark(0, true);
            return x;
        };
        List<Supplier<PatternFinder>> states = List.of(PatternFinder::new, LookBoundaryTest::overfull,
                LookBoundaryTest::tooCheap, forgotten);
        for (Supplier<PatternFinder> state : states) {
            refused(14, "nothing is found", state, PatternFinder::nodeCount, STATE);
            refused(17, "nothing is found", state, PatternFinder::textSize, STATE);
            refused(21, "nothing is found", state, PatternFinder::first, STATE);
            refused(22, "nothing is found", state, PatternFinder::share, STATE);
            refused(26, "nothing is found", state, PatternFinder::take, STATE);
            for (int index : new int[] {0, -1, 60, GREATEST, LEAST}) {
                refused(15, "nothing is found", state, x -> x.kind(index), STATE);
                refused(16, "nothing is found", state, x -> x.part(index, false), STATE);
                refused(16, "nothing is found", state, x -> x.part(index, true), STATE);
                refused(18, "nothing is found", state, x -> x.text(index), STATE);
                refused(20, "nothing is found", state, x -> x.count(index), STATE);
                refused(19, "nothing is found", state, x -> x.matches(index), STATE);
            }
        }
    }

    // ---- promises 14 to 16

    private static PatternFinder manyNodes() {
        return found("aaaaaa  aaaaa aa", "aaaa a", NODES_COSTS);
    }

    private static void nodes() {
        PatternFinder x = manyNodes();
        due(17, "text", text(x), "(1|a(aa))(1|a(a(1|a)))");
        int[] kinds = {5, 6, 1, 5, 2, 5, 2, 2, 6, 1, 5, 2, 5, 2, 6, 1, 2};
        int[] firsts = {1, 2, -1, 4, 97, 6, 97, 97, 9, -1, 11, 97, 13, 97, 15, -1, 97};
        int[] seconds = {8, 3, -1, 5, -1, 7, -1, -1, 10, -1, 12, -1, 14, -1, 16, -1, -1};
        checkNodes(x, kinds, firsts, seconds);
        PatternFinder y = found(" bb ba c ac", "a", 5, 9, 4, 5, 6, 7, 8);
        due(17, "text", text(y), "(a?((b|c)a?))*");
        int[] otherKinds = {4, 5, 3, 2, 5, 6, 2, 2, 3, 2};
        int[] otherFirsts = {1, 2, 3, 97, 5, 6, 98, 99, 9, 97};
        int[] otherSeconds = {-1, 4, -1, -1, 8, 7, -1, -1, -1, -1};
        checkNodes(y, otherKinds, otherFirsts, otherSeconds);
    }

    private static void checkNodes(PatternFinder x, int[] kinds, int[] firsts, int[] seconds) {
        due(14, "nodes", x.nodeCount(), kinds.length);
        for (int node = 0; node < kinds.length; node++) {
            due(15, "kind of " + node, x.kind(node), kinds[node]);
            due(16, "p of " + node, x.part(node, false), firsts[node]);
            due(16, "q of " + node, x.part(node, true), seconds[node]);
        }
        due(15, "one node more", outcome(() -> x.kind(kinds.length)), INDEX);
    }

    private static void nodesWithOneKindEach() {
        PatternFinder nothing = new PatternFinder();
        nothing.look(1);
        checkNodes(nothing, new int[] {0}, new int[] {-1}, new int[] {-1});
        checkNodes(found("", "a"), new int[] {1}, new int[] {-1}, new int[] {-1});
        checkNodes(found("a", ""), new int[] {2}, new int[] {97}, new int[] {-1});
        checkNodes(found("c", "a b"), new int[] {2}, new int[] {99}, new int[] {-1});
        checkNodes(found("", "", 1, 9, 1, 1, 9, 9, 9), new int[] {3, 0}, new int[] {1, -1}, new int[] {-1, -1});
        checkNodes(found(" b", "bb"), new int[] {3, 2}, new int[] {1, 98}, new int[] {-1, -1});
        checkNodes(found(" b bb", "a"), new int[] {4, 2}, new int[] {1, 98}, new int[] {-1, -1});
        checkNodes(found("bc", "b c"), new int[] {5, 2, 2}, new int[] {1, 98, 99}, new int[] {2, -1, -1});
        checkNodes(found("b a", " ab"), new int[] {6, 2, 2}, new int[] {1, 97, 98}, new int[] {2, -1, -1});
    }

    private static void nodeNumbers() {
        List<Supplier<PatternFinder>> states = List.of(LookBoundaryTest::foundStarB, LookBoundaryTest::manyNodes,
                () -> found("a", ""));
        for (Supplier<PatternFinder> state : states) {
            int count = state.get().nodeCount();
            for (int node : new int[] {LEAST, -97, -2, -1, count, count + 1, 60, 97, GREATEST}) {
                refused(15, "node " + node, state, x -> x.kind(node), INDEX);
                refused(16, "p of " + node, state, x -> x.part(node, false), INDEX);
                refused(16, "q of " + node, state, x -> x.part(node, true), INDEX);
            }
            PatternFinder x = state.get();
            due(15, "the last node", x.kind(count - 1), 2);
            due(16, "q of the last node", x.part(count - 1, true), -1);
        }
        // a smaller pattern that is found later has none of the nodes of the earlier one
        PatternFinder x = manyNodes();
        for (int example = 0; example < 4; example++) {
            x.mark(example, false);
        }
        looked(x, 60, 1);
        due(14, "one node", x.nodeCount(), 1);
        due(15, "no second node", outcome(() -> x.kind(1)), INDEX);
        due(18, "no second sign", outcome(() -> x.text(1)), INDEX);
    }

    // ---- promises 17 and 18: round brackets, for each kind in each place where it can be found

    private static void texts() {
        PatternFinder nothing = new PatternFinder();
        nothing.look(1);
        due(17, "NOTHING", text(nothing), "0");
        written("1", "", "a");
        written("b", "b", "");
        // p of an OPTION
        written("0?", "", "", 1, 9, 9, 1, 9, 9, 9);
        written("a?", "a ", "b");
        written("(ab)?", " ab", "a b");
        written("(a|b)?", " a b", "");
        // p of a REPEAT
        written("0*", "", "", 1, 8, 3, 9, 5, 2, 7);
        written("a*", " a aa", "b");
        written("(ab)*", "abab", "a b");
        written("(a|b)*", "ba", "", 4, 4, 3, 8, 4, 9, 5);
        // p and q of a CHAIN
        written("ba", "ba", "a b");
        written("a?b", "b ab", "a");
        written("a*b", "b ab aab", "a ");
        written("(a|b)c", "ac bc", " a b c");
        written("ab?", "a ab", " b");
        written("ab*", "a ab abb", "b ba ");
        written("a(bc)", "abc", " a b c ab bc");
        written("a(b|c)", "ab ac", " a b c");
        written("a?b?", " a b", "", 1, 1, 1, 1, 1, 1, 9);
        // p and q of an EITHER
        written("1|a", "a ", "", 1, 1, 9, 9, 9, 9, 1);
        written("a|1", "a ", "", 5, 2, 1, 8, 6, 5, 1);
        written("a|b", "b a", " ab");
        written("0*|a", "a ", "aa", 1, 9, 9, 9, 1, 1, 1);
        written("a|0*", "a ", "aa", 1, 9, 1, 9, 1, 9, 1);
        written("ac|ca", "ca ac", "", 9, 1, 1, 9, 9, 1, 9);
        written("a|bc", "a bc", " b c ab");
        written("a|(b|c)", "a b c", "");
        // one in another
        written("(b(ca)?)*", "bcab", "", 1, 1, 1, 1, 1, 1, 8);
        written("(a(a(a(a(aa)))))?", "aaaaaa ", "aaa aaaa", 1, 9, 9, 1, 1, 1, 9);
        written("a((a(aa))*(a(a(aa)))*)", "aaaaa aaaa", "aaaaaa aa", 1, 9, 1, 9, 1, 1, 9);
        written("((a|b)c)*", "bcac", "", 4, 4, 4, 4, 5, 5, 6);
    }

    private static void written(String text, String good, String bad, int... costs) {
        PatternFinder x = found(good, bad, costs);
        due(17, "text", text(x), text);
        due(17, "its size", x.textSize(), text.length());
        for (int index = 0; index < text.length(); index++) {
            due(18, "sign " + index + " of " + text, x.text(index), (int) text.charAt(index));
        }
    }

    private static void textIndexes() {
        List<Supplier<PatternFinder>> states = List.of(LookBoundaryTest::foundStarB, LookBoundaryTest::manyNodes,
                () -> found("a", ""));
        for (Supplier<PatternFinder> state : states) {
            int size = state.get().textSize();
            for (int index : new int[] {LEAST, -1, size, size + 1, 180, GREATEST}) {
                refused(18, "index " + index, state, x -> x.text(index), INDEX);
            }
            due(18, "the last index", outcome(() -> state.get().text(size - 1)) instanceof Integer, true);
        }
    }

    // ---- promises 19 to 22

    private static void matching() {
        PatternFinder x = foundStarB();
        for (String word : Reference.ALL_WORDS) {
            due(19, "a*b and " + word, x.matches(w(word)), word.matches("a*b"));
        }
        PatternFinder y = manyNodes();
        for (String word : Reference.ALL_WORDS) {
            due(19, "aaa or not, and aa, aaa or not: " + word, y.matches(w(word)), word.matches("(aaa)?(aaa?)?"));
        }
        // what matches no piece can still match words
        PatternFinder letter = finder("", "", 9, 2, 1, 9, 9, 9, 9);
        letter.mark(0, false);
        looked(letter, 1, 1);
        due(19, "a, which is no piece", letter.matches(w("a")), true);
        due(22, "none of the pieces", letter.share(), 0.0);
        due(21, "its first word", letter.first(), w("a"));
        due(20, "its words", letter.count(1), 1);
    }

    private static void counting() {
        Object[][] cases = {
            {"0", finder("a", ""), 0, 0, 0, 0, 0, 0, 0}, {"1", finder("", "a"), 1, 0, 0, 0, 0, 0, 0},
            {"b", finder("b", ""), 0, 1, 0, 0, 0, 0, 0}, {"a*b", finder("b ab aab", "a "), 0, 1, 1, 1, 1, 1, 1},
            {"(a|b)?", finder(" a b", ""), 1, 2, 0, 0, 0, 0, 0},
            {"(ab)*", finder("abab", "a b"), 1, 0, 1, 0, 1, 0, 1},
            {"(a|(b|c))*", finder(" a b c ab bc ca", ""), 1, 3, 9, 27, 81, 243, 729}};
        ((PatternFinder) cases[0][1]).mark(0, false);
        for (Object[] row : cases) {
            PatternFinder x = (PatternFinder) row[1];
            x.look(60);
            due(17, "text", text(x), row[0]);
            for (int letters = 0; letters <= 6; letters++) {
                due(20, letters + " letters of " + row[0], x.count(letters), row[letters + 2]);
            }
        }
        for (int letters : new int[] {LEAST, -6, -1, 7, 8, GREATEST}) {
            refused(20, letters + " letters", LookBoundaryTest::foundStarB, x -> x.count(letters), ARGUMENT);
        }
    }

    private static void firstWords() {
        PatternFinder nothing = new PatternFinder();
        nothing.look(1);
        due(21, "none", nothing.first(), -1L);
        due(21, "the empty word", found("", "a").first(), 0L);
        due(21, "the empty word of many", found(" a b c ab bc ca", "").first(), 0L);
        due(21, "the very last word", found("cccccc", "c cc ccc cccc ccccc ").first(), w("cccccc"));
        due(21, "a shorter word first", found("c ab", "b a bc").first(), w("c"));
        due(21, "no example: b of a*b", found("ab aab", "a ", 1, 1, 1, 3, 1, 1, 4).first(), w("b"));
        due(21, "6 letters, the first of all", found("aaaaaa", "a aa aaa aaaa aaaaa ").first(), w("aaaaaa"));
        due(21, "b", found("b", "a c").first(), w("b"));
        due(21, "c", found("c", "a b").first(), w("c"));
    }

    private static void shares() {
        PatternFinder nothing = new PatternFinder();
        nothing.look(1);
        due(22, "0 of 1", nothing.share(), 0.0);
        due(22, "1 of 1", found("", "").share(), 1.0);
        due(22, "1 of 2", found("a", "").share(), 0.5);
        due(22, "2 of 2", found("a ", "").share(), 1.0);
        due(22, "1 of 3", found("aa", "a ").share(), 1.0 / 3);
        due(22, "2 of 3", found("a ", "aa").share(), 2.0 / 3);
        due(22, "all of 4, not of the examples alone", found("aaa ", "", 1, 1, 1, 9, 1, 9, 9).share(), 1.0);
        // 60 pieces, of which 1 is matched, and then none
        PatternFinder x = new PatternFinder();
        for (String word : new String[] {"cacbba", "ccbcab", "cbccab", "acbcac", "acacca", "cccabc"}) {
            x.add(w(word), false);
        }
        x.add(0, true);
        looked(x, 1, 1);
        due(22, "1 of 60", x.share(), 1.0 / 60);
        x.mark(6, false);
        looked(x, 1, 1);
        due(22, "0 of 60", x.share(), 0.0);
    }

    // ---- many looks

    /** A look leaves nothing to a later one with other examples. */
    private static void looksDoNotMixUp() {
        String[][] sets = {{"babbc", "b"}, {"caccb", "a"}, {"b ab aab", "a "}, {"cccccc", "c cc "}, {"a b c", ""},
            {"abc aac", ""}, {"aaaaa aaaa", "aaa"}, {" ab abab", "a b ba"}};
        PatternFinder x = new PatternFinder();
        for (int step = 0; step < 24; step++) {
            String[] set = sets[step * 5 % sets.length];
            while (x.exampleCount() > 0) {
                x.drop();
            }
            PatternFinder fresh = finder(set[0], set[1]);
            for (int example = 0; example < fresh.exampleCount(); example++) {
                x.add(fresh.example(example), fresh.isGood(example));
            }
            due(11, "look after others", x.look(60), fresh.look(60));
            due(12, "kept after others", x.kept(), fresh.kept());
            due(31, "digest after others", x.digest(), fresh.digest());
            due(17, "text after others", x.isFound() ? text(x) : "", fresh.isFound() ? text(fresh) : "");
        }
    }

    private static void fiveHundredAndTwelveCalls() {
        PatternFinder x = finder("babbc", "b");
        for (int call = 3; call < 512; call++) {
            if (x.look(60) != -2) {
                due(11, "look, call " + call, "another answer", -2);
            }
        }
        due(12, "the 512th call", x.kept(), 120);
    }
}
