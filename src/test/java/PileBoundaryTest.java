import java.math.BigInteger;
import java.util.List;
import java.util.function.Supplier;

/**
 * The boundaries of the patterns that are built by hand, promises 23 to 30, and of the digest: just
 * inside, just beyond, and what a refused call leaves.
 */
public final class PileBoundaryTest extends Checks {
    private static final String FULL = "01abc01abc01";

    public static void main(String[] args) {
        meaningOfKinds();
        kindsToPush();
        lettersToPush();
        fullPile();
        kindsToWrap();
        kindsToJoin();
        joinOfPlaces();
        sixtyNodesByWrap();
        sixtyNodesByJoin();
        taking();
        popping();
        emptyPile();
        topCosts();
        topWords();
        topWrongs();
        digestsOfExamples();
        digestsOfPatterns();
        fiveHundredAndTwelveCalls();
        end("PileBoundaryTest");
    }

    /** a? is found, and there are four examples. */
    private static PatternFinder lookedFor() {
        return found(" a", "b aa");
    }

    // ---- what each kind matches, said once more by a regular expression of Java; (?!) matches nothing

    private static void meaningOfKinds() {
        String[][] meanings = {{"0", "(?!)"}, {"1", ""}, {"a", "a"}, {"b", "b"}, {"c", "c"},
            {"0?", ""}, {"1?", ""}, {"a?", "a?"}, {"a??", "a?"}, {"ab.?", "(ab)?"}, {"ab|?", "[ab]?"}, {"a*?", "a*"},
            {"0*", ""}, {"1*", ""}, {"a*", "a*"}, {"a**", "a*"}, {"a?*", "a*"}, {"ab.*", "(ab)*"},
            {"aa.aaa..|*", "(aa|aaa)*"}, {"1a|*", "a*"}, {"ab?.*", "(ab?)*"}, {"a*b*.*", "[ab]*"},
            {"ab.b|*ba.*.", "(ab|b)*(ba)*"}, {"aaaa...*", "(aaaa)*"}, {"aaaaaa.....*", "(a{6})?"},
            {"1a.", "a"}, {"a1.", "a"}, {"11.", ""}, {"0a.", "(?!)"}, {"a0.", "(?!)"}, {"a0?.", "a"},
            {"ab.", "ab"}, {"ab.c.", "abc"}, {"abc..", "abc"}, {"a*b*.", "a*b*"}, {"a*a.", "a+"}, {"aa*.", "a+"},
            {"a?b?.c?.", "a?b?c?"}, {"aaaaaa.....", "a{6}"}, {"aaaaaaa......", "a{7}"}, {"a*a*.b.", "a*b"},
            {"01|", ""}, {"0a|", "a"}, {"a0|", "a"}, {"1a|", "a?"}, {"aa|", "a"}, {"ab|c|", "[abc]"},
            {"ab.bc.|", "ab|bc"}, {"a*b|", "a*|b"}, {"ab|c|*", "[abc]*"}, {"ab|ab|.", "[ab][ab]"}};
        for (String[] row : meanings) {
            PatternFinder x = built(row[0]);
            for (String word : Reference.ALL_WORDS) {
                due(29, row[0] + " and " + word, x.topMatches(w(word)), word.matches(row[1]));
            }
            due(27, "one pattern alone", x.pop(), 0);
        }
    }

    // ---- push: kinds 0 to 2, letters 97 to 99

    private static void kindsToPush() {
        for (int kind : new int[] {LEAST, -1, 3, 4, 5, 6, 7, GREATEST}) {
            for (int letter : new int[] {0, 97, 99, 100}) {
                refused(23, "kind " + kind, () -> build(lookedFor(), "ab"), x -> x.push(kind, letter), ARGUMENT);
                refused(23, "kind " + kind + ", and full", () -> built(FULL), x -> x.push(kind, letter), ARGUMENT);
            }
        }
        for (int letter : new int[] {LEAST, -1, 0, 96, 97, 99, 100, 256, GREATEST}) {
            PatternFinder x = new PatternFinder();
            due(23, "NOTHING, whatever the letter", x.push(0, letter), 1);
            due(29, "NOTHING", x.topMatches(0), false);
            due(23, "EMPTY, whatever the letter", x.push(1, letter), 2);
            due(29, "EMPTY", x.topMatches(0), true);
        }
    }

    private static void lettersToPush() {
        for (int letter = 97; letter <= 99; letter++) {
            PatternFinder x = new PatternFinder();
            due(23, "letter " + letter, x.push(2, letter), 1);
            for (int other = 97; other <= 99; other++) {
                due(29, "letter " + letter + " and " + other, x.topMatches(other), other == letter);
            }
        }
        for (int letter : new int[] {LEAST, -97, -1, 0, 1, 65, 95, 96, 100, 101, 97 + 256, 99 + 65536, GREATEST}) {
            refused(23, "letter " + letter, () -> build(lookedFor(), "ab"), x -> x.push(2, letter), ARGUMENT);
            refused(23, "letter " + letter + ", and full", () -> built(FULL), x -> x.push(2, letter), ARGUMENT);
        }
    }

    // ---- a pile of at most 12

    private static void fullPile() {
        PatternFinder x = new PatternFinder();
        for (int size = 1; size <= 12; size++) {
            due(23, "then", x.push(2, 97 + size % 3), size);
        }
        for (int kind = 0; kind <= 2; kind++) {
            int which = kind;
            refused(23, "a thirteenth", () -> built(FULL), y -> y.push(which, 97), STATE);
        }
        refused(26, "a thirteenth", () -> build(lookedFor(), FULL), PatternFinder::take, STATE);
        due(24, "wrap when it is full", x.wrap(3), 2);
        due(25, "join when it is full", x.join(6), 4);
        due(23, "then one has room", x.push(1, 0), 12);
        due(23, "and none more", outcome(() -> x.push(1, 0)), STATE);
        for (int left = 11; left >= 0; left--) {
            due(27, "left", x.pop(), left);
        }
        due(27, "none", outcome(x::pop), STATE);
        PatternFinder y = build(lookedFor(), FULL.substring(1));
        due(26, "the twelfth", y.take(), 12);
        due(26, "a thirteenth", outcome(y::take), STATE);
        due(28, "the twelfth", y.topCost(), 2);
        PatternFinder z = built(FULL);
        for (int left = 11; left >= 1; left--) {
            z.join(5);
            due(31, "patterns on the pile", outcome(() -> z.push(1, 0)), left + 1);
            z.pop();
        }
        due(25, "one alone", outcome(() -> z.join(5)), STATE);
    }

    // ---- wrap: kinds 3 and 4; join: kinds 5 and 6

    private static void kindsToWrap() {
        for (int kind : new int[] {LEAST, -1, 0, 1, 2, 5, 6, 7, GREATEST}) {
            for (String signs : new String[] {"", "a", "ab", FULL, "a" + "*".repeat(59)}) {
                refused(24, "kind " + kind, () -> build(lookedFor(), signs), x -> x.wrap(kind), ARGUMENT);
            }
        }
        PatternFinder x = built("ab");
        due(24, "OPTION", x.wrap(3), 2);
        due(29, "b?", x.topMatches(w("bb")), false);
        due(24, "REPEAT", x.wrap(4), 3);
        due(29, "(b?)*", x.topMatches(w("bb")), true);
        due(27, "the one below stays", x.pop(), 1);
        due(29, "a", x.topMatches(w("a")), true);
        due(29, "a", x.topMatches(0), false);
        refused(24, "an empty pile", PileBoundaryTest::lookedFor, y -> y.wrap(3), STATE);
        refused(24, "an empty pile", PileBoundaryTest::lookedFor, y -> y.wrap(4), STATE);
    }

    private static void kindsToJoin() {
        for (int kind : new int[] {LEAST, -1, 0, 1, 2, 3, 4, 7, 8, GREATEST}) {
            for (String signs : new String[] {"", "a", "ab", FULL, "a" + "*".repeat(59) + "b"}) {
                refused(25, "kind " + kind, () -> build(lookedFor(), signs), x -> x.join(kind), ARGUMENT);
            }
        }
        for (int kind = 5; kind <= 6; kind++) {
            int which = kind;
            refused(25, "none", PileBoundaryTest::lookedFor, x -> x.join(which), STATE);
            refused(25, "one", () -> build(lookedFor(), "a"), x -> x.join(which), STATE);
            refused(25, "one of many nodes", () -> built("ab.c|*"), x -> x.join(which), STATE);
            due(25, "two", built("ab").join(which), 3);
        }
    }

    private static void joinOfPlaces() {
        PatternFinder x = built("abc");
        due(25, "the two on top", x.join(5), 3);
        due(29, "q was on top", x.topMatches(w("bc")), true);
        due(29, "q was on top", x.topMatches(w("cb")), false);
        due(25, "the one below with them", x.join(5), 5);
        due(29, "a(bc)", x.topMatches(w("abc")), true);
        due(27, "none is left", x.pop(), 0);
        PatternFinder y = built("cab.a|");
        due(29, "ab|a", y.topMatches(w("ab")), true);
        due(27, "c is left", y.pop(), 1);
        due(29, "c", y.topMatches(w("c")), true);
    }

    // ---- at most 60 nodes

    private static void sixtyNodesByWrap() {
        for (int kind = 3; kind <= 4; kind++) {
            PatternFinder x = built("b");
            for (int nodes = 2; nodes <= 60; nodes++) {
                due(24, "nodes", x.wrap(kind), nodes);
            }
            int which = kind;
            due(24, "61", outcome(() -> x.wrap(which)), STATE);
            due(28, "60 still", x.topCost(), 60);
            due(29, "as one wrap", x.topMatches(w("bb")), kind == 4);
            refused(24, "61", () -> build(lookedFor(), "ab" + "?".repeat(59)), y -> y.wrap(which), STATE);
            refused(24, "61", () -> built(FULL + "*".repeat(59)), y -> y.wrap(which), STATE);
        }
        // 59 nodes that are joined, and one more
        PatternFinder x = built("a" + "*".repeat(28) + "b" + "*".repeat(28) + ".");
        due(28, "59 nodes", x.topCost(), 59);
        due(24, "60 nodes", x.wrap(4), 60);
        due(24, "61 nodes", outcome(() -> x.wrap(3)), STATE);
        due(29, "(a*b*)*", x.topMatches(w("abbaab")), true);
        due(29, "(a*b*)*", x.topMatches(w("abcaab")), false);
    }

    private static void sixtyNodesByJoin() {
        int[][] inside = {{1, 58}, {58, 1}, {29, 30}, {30, 29}, {2, 57}, {20, 39}};
        int[][] beyond = {{1, 59}, {59, 1}, {30, 30}, {60, 60}, {60, 1}, {1, 60}, {31, 29}, {20, 40}, {59, 59}};
        for (int kind = 5; kind <= 6; kind++) {
            int which = kind;
            for (int[] nodes : inside) {
                PatternFinder x = twoOf(nodes);
                due(25, nodes[0] + " and " + nodes[1], x.join(which), 60);
                due(28, "60 nodes", x.topCost(), 60);
                due(29, "aab", x.topMatches(w("aab")), which == 5 && nodes[0] > 1);
                due(24, "one more", outcome(() -> x.wrap(3)), STATE);
                due(27, "one pattern", x.pop(), 1);
            }
            for (int[] nodes : beyond) {
                refused(25, nodes[0] + " and " + nodes[1], () -> twoOf(nodes), x -> x.join(which), STATE);
            }
        }
        due(25, "59 nodes", twoOf(new int[] {29, 29}).join(5), 59);
    }

    /** c, and on it a pattern of a and one of b, with so many nodes. */
    private static PatternFinder twoOf(int[] nodes) {
        return built("ca" + "*".repeat(nodes[0] - 1) + "b" + "*".repeat(nodes[1] - 1));
    }

    // ---- take and pop

    private static void taking() {
        Supplier<PatternFinder> notFound = () -> build(finder("a", ""), "ab");
        refused(26, "nothing is found", notFound, PatternFinder::take, STATE);
        refused(26, "nothing is found, and full", () -> built(FULL), PatternFinder::take, STATE);
        PatternFinder x = lookedFor();
        for (int size = 1; size <= 12; size++) {
            due(26, "then", x.take(), size);
        }
        due(26, "a thirteenth", outcome(x::take), STATE);
        // what lies on the pile is a pattern of its own
        x.wrap(4);
        x.pop();
        x.join(5);
        due(14, "the one that is found stays", x.nodeCount(), 2);
        due(17, "the one that is found stays", text(x), "a?");
        due(29, "a?a?", x.topMatches(w("aa")), true);
        x.pop();
        due(29, "the one below stays", x.topMatches(w("aa")), false);
        x.mark(0, false);
        due(29, "it stays when that is forgotten", x.topMatches(w("a")), true);
        looked(x, 1);
        due(29, "and when another is found", x.topMatches(0), true);
        due(26, "the other one", x.take(), 10);
        due(29, "the other one", x.topMatches(0), false);
        PatternFinder many = found("aaaaaa  aaaaa aa", "aaaa a", 1, 1, 1, 9, 9, 1, 1);
        build(many, "b" + "*".repeat(41));
        due(26, "17 nodes", many.take(), 2);
        due(25, "17 and 42 nodes", many.join(6), 60);
        due(29, "bbbb", many.topMatches(w("bbbb")), true);
        due(29, "aaaaa", many.topMatches(w("aaaaa")), true);
        due(29, "aaaa", many.topMatches(w("aaaa")), false);
        build(many, "b" + "*".repeat(42));
        many.take();
        due(25, "17 and 43 nodes", outcome(() -> many.join(6)), STATE);
    }

    private static void looked(PatternFinder x, int answer) {
        due(11, "look", x.look(60), answer);
    }

    private static void popping() {
        PatternFinder x = built("abc");
        due(27, "two left", x.pop(), 2);
        due(29, "b", x.topMatches(w("b")), true);
        due(23, "another on it", x.push(2, 97), 3);
        due(27, "two left", x.pop(), 2);
        due(29, "b still", x.topMatches(w("b")), true);
        due(27, "one left", x.pop(), 1);
        due(27, "none left", x.pop(), 0);
        due(27, "none", outcome(x::pop), STATE);
        due(23, "the first again", x.push(1, 0), 1);
    }

    private static void emptyPile() {
        List<Supplier<PatternFinder>> states = List.of(PatternFinder::new, PileBoundaryTest::lookedFor, () -> {
            PatternFinder x = built("ab");
            x.pop();
            x.pop();
            return x;
        });
        for (Supplier<PatternFinder> state : states) {
            refused(24, "empty", state, x -> x.wrap(3), STATE);
            refused(25, "empty", state, x -> x.join(6), STATE);
            refused(27, "empty", state, PatternFinder::pop, STATE);
            refused(28, "empty", state, PatternFinder::topCost, STATE);
            refused(29, "empty", state, x -> x.topMatches(0), STATE);
            refused(29, "empty, and no word", state, x -> x.topMatches(100), STATE);
            refused(29, "empty, and 7 letters", state, x -> x.topMatches(w("aaaaaaa")), STATE);
            refused(30, "empty", state, PatternFinder::topWrong, STATE);
        }
        refused(29, "no word", () -> built("a"), x -> x.topMatches(100), ARGUMENT);
        refused(29, "7 letters", () -> built(FULL), x -> x.topMatches(w("aaaaaaa")), ARGUMENT);
    }

    // ---- promises 28 to 30

    private static void topCosts() {
        String[] ofKind = {"0", "1", "a", "0?", "0*", "00.", "00|"};
        for (int kind = 0; kind <= 6; kind++) {
            PatternFinder x = built(ofKind[kind]);
            int others = kind < 3 ? 0 : kind < 5 ? 1 : 2;
            for (int cost = 1; cost <= 9; cost++) {
                x.setCost(kind, cost);
                due(28, "kind " + kind, x.topCost(), cost + others);
            }
        }
        PatternFinder x = built("a" + "*".repeat(59));
        due(28, "60 nodes", x.topCost(), 60);
        x.setCost(4, 9);
        x.setCost(2, 9);
        due(28, "60 nodes, the greatest cost", x.topCost(), 540);
        x.setCost(4, 1);
        due(28, "by the present costs", x.topCost(), 68);
        PatternFinder y = lookedFor();
        y.take();
        due(28, "found at 2", y.topCost(), 2);
        y.setCost(3, 8);
        due(28, "9 now", y.topCost(), 9);
        due(28, "the pattern is as before", y.topMatches(w("a")), true);
    }

    private static void topWords() {
        PatternFinder x = built("c" + "*".repeat(59));
        due(29, "the empty word", x.topMatches(0), true);
        due(29, "6 letters", x.topMatches(w("cccccc")), true);
        due(29, "6 letters, the last another", x.topMatches(w("cccccb")), false);
        due(29, "6 letters, the first another", x.topMatches(w("bccccc")), false);
        due(13, "no look is needed", x.isFound(), false);
        PatternFinder y = build(lookedFor(), "b");
        due(29, "the top, not the one that is found", y.topMatches(w("a")), false);
        due(19, "the one that is found, not the top", y.matches(w("b")), false);
    }

    private static void topWrongs() {
        PatternFinder none = built("0");
        due(30, "no examples", none.topWrong(), 0);
        String nine = "a b c aa ab ac ba bb bc";
        String ten = nine + " ca";
        due(30, "10 good ones, none matched", build(finder(ten, ""), "0").topWrong(), 10);
        due(30, "10 good ones, all matched", build(finder(ten, ""), "ab|c|*").topWrong(), 0);
        due(30, "9 good ones, not the bad one", build(finder(nine, "ca"), "ab|c|*").topWrong(), 1);
        PatternFinder bad = build(finder(ten, ""), "ab|c|*0");
        for (int example = 0; example < 10; example++) {
            bad.mark(example, false);
            due(30, "bad ones, none matched", bad.topWrong(), 9 - example);
        }
        bad.pop();
        due(30, "10 bad ones, all matched", bad.topWrong(), 10);
        PatternFinder x = build(lookedFor(), "b");
        due(30, "both good ones, and b", x.topWrong(), 3);
        x.take();
        due(30, "the one that is found", x.topWrong(), 0);
        x.drop();
        x.add(w("cccccc"), true);
        due(30, "with present examples", x.topWrong(), 1);
    }

    // ---- promise 31

    private static void digestsOfExamples() {
        PatternFinder x = new PatternFinder();
        digest("new", x, 0, 1, 1, 1, 1, 1, 1, 1, 1, 0, 0);
        x.add(0, false);
        digest("the empty word, bad", x, 1, 0, 0, 1, 1, 1, 1, 1, 1, 1, 1, 0, 0);
        x.mark(0, true);
        digest("good", x, 1, 0, 1, 1, 1, 1, 1, 1, 1, 1, 1, 0, 0);
        x.add(0x63_00_62_00_61L, false);
        digest("bytes 0 are left out", x, 2, 0, 1, w("cba"), 0, 1, 1, 1, 1, 1, 1, 1, 7, 0, 0);
        for (int kind = 0; kind <= 6; kind++) {
            x.setCost(kind, 9 - kind);
        }
        digest("costs", x, 2, 0, 1, w("cba"), 0, 9, 8, 7, 6, 5, 4, 3, 7, 0, 0);
        x.drop();
        digest("one left", x, 1, 0, 1, 9, 8, 7, 6, 5, 4, 3, 1, 0, 0);
        PatternFinder ten = finder("cccccc ccccc cccc ccc cc c b bc bcc", "a");
        digest("ten, beyond 64 bits", ten, 10, w("cccccc"), 1, w("ccccc"), 1, w("cccc"), 1, w("ccc"), 1, w("cc"), 1,
                w("c"), 1, w("b"), 1, w("bc"), 1, w("bcc"), 1, w("a"), 0, 1, 1, 1, 1, 1, 1, 1, 11, 0, 0);
    }

    private static void digestsOfPatterns() {
        PatternFinder x = found("ab", "a b");
        digest("found", x, 3, w("ab"), 1, w("a"), 0, w("b"), 0, 1, 1, 1, 1, 1, 1, 1, 4, 1, 3, 5, 2, 2, 0);
        build(x, "0a*b|");
        digest("and a pile", x, 3, w("ab"), 1, w("a"), 0, w("b"), 0, 1, 1, 1, 1, 1, 1, 1, 4,
                1, 3, 5, 2, 2, 2, 1, 4);
        x.take();
        x.setCost(4, 6);
        digest("forgotten, and dearer", x, 3, w("ab"), 1, w("a"), 0, w("b"), 0, 1, 1, 1, 1, 6, 1, 1, 4,
                0, 3, 1, 9, 3);
        x.look(2);
        digest("a look that finds none", x, 3, w("ab"), 1, w("a"), 0, w("b"), 0, 1, 1, 1, 1, 6, 1, 1, 4,
                0, 3, 1, 9, 3);
        PatternFinder full = build(new PatternFinder(), "a?bc*ab.0?1?a??b**ab|abc.|aa?.0");
        full.look(1);
        digest("a full pile", full, 0, 1, 1, 1, 1, 1, 1, 1, 1, 1, 1, 0,
                12, 2, 1, 2, 3, 2, 2, 3, 3, 3, 5, 4, 1);
    }

    private static void digest(String what, PatternFinder x, long... numbers) {
        BigInteger d = BigInteger.valueOf(167);
        for (long number : numbers) {
            d = d.multiply(BigInteger.valueOf(31)).add(BigInteger.valueOf(number));
        }
        due(31, what, x.digest(), d.longValue());
        due(31, what + ", asked again", x.digest(), d.longValue());
    }

    // ---- 512 calls

    private static void fiveHundredAndTwelveCalls() {
        PatternFinder x = new PatternFinder();
        for (int round = 0; round < 128; round++) {
            due(23, "push", x.push(2, 97 + round % 3), 1);
            due(24, "wrap", x.wrap(4), 2);
            due(29, "top matches", x.topMatches(w("cccccc")), round % 3 == 2);
            due(27, "pop", x.pop(), 0);
        }
    }
}
