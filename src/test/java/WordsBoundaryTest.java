import java.util.List;
import java.util.function.Supplier;

/**
 * The boundaries that "Words" in the document's description names, and those of promises 1 to 10:
 * just inside, just beyond, and what a refused call leaves.
 */
public final class WordsBoundaryTest extends Checks {
    // the pieces of the first five are 53, of all six 59
    private static final String[] FIFTY_NINE = {"cacbba", "ccbcab", "cbccab", "acbcac", "acacca", "aaaab"};
    private static final String[] TEN = {"a", "b", "c", "aa", "ab", "ac", "ba", "bb", "bc", ""};

    public static void main(String[] args) {
        sixLetters();
        sevenLetters();
        everyByteAtEveryPlace();
        bytesLeftOut();
        firstLetterHighest();
        orderOfWords();
        tenExamples();
        noWordTwice();
        piecesFollowEachOther();
        piecesOfFewerExamples();
        droppedWordsLeaveNothing();
        sixtyPieces();
        whichExceptionOfAdd();
        newObject();
        exampleNumbers();
        pieceNumbers();
        dropping();
        costs();
        end("WordsBoundaryTest");
    }

    private static PatternFinder with(String... words) {
        PatternFinder x = new PatternFinder();
        for (int example = 0; example < words.length; example++) {
            x.add(w(words[example]), example % 2 == 0);
        }
        return x;
    }

    /** Five examples, a*b is found, and ab and c? are on the pile. */
    private static PatternFinder busy() {
        return build(found("b ab aab", "a ", 1, 2, 1, 3, 1, 1, 4), "ab.c?");
    }

    // ---- a word has at most 6 letters, a, b or c

    private static void sixLetters() {
        for (String word : List.of("aaaaaa", "cccccc", "abcabc", "cba", "b", "")) {
            PatternFinder x = new PatternFinder();
            due(2, "add " + word, x.add(w(word), true), 0);
            due(7, "told back: " + word, x.example(0), w(word));
            due(9, "all in it: " + word, x.pieceCount(), Reference.pieces(List.of(word)).size());
            due(11, "look for " + word, x.look(60) > 0, true);
            due(19, "matches " + word, x.matches(w(word)), true);
            x.take();
            due(29, "top matches " + word, x.topMatches(w(word)), true);
        }
    }

    private static void sevenLetters() {
        long[] tooLong = {w("aaaaaaa"), w("ccccccc"), w("abcabcab"), w("cccccccc"), w("aaaaaa") << 16 | w("a"),
            w("a") << 56 | w("bbbbbb"), w("aaaaaaa") << 8, w("aaaaaaaa")};
        for (long number : tooLong) {
            refused(2, "add " + number, WordsBoundaryTest::busy, x -> x.add(number, true), ARGUMENT);
            refused(19, "matches " + number, WordsBoundaryTest::busy, x -> x.matches(number), ARGUMENT);
            refused(29, "top matches " + number, WordsBoundaryTest::busy, x -> x.topMatches(number), ARGUMENT);
        }
    }

    private static void everyByteAtEveryPlace() {
        PatternFinder x = busy();
        due(17, "found", text(x), "a*b");
        for (int shift = 0; shift < 64; shift += 8) {
            for (long sign = 0; sign < 256; sign++) {
                long number = sign << shift;
                PatternFinder y = new PatternFinder();
                boolean isLetter = sign >= 97 && sign <= 99;
                boolean isWord = isLetter || sign == 0;
                due(2, "add " + number, outcome(() -> y.add(number, true)), isWord ? (Object) 0 : ARGUMENT);
                due(6, "examples after " + number, y.exampleCount(), isWord ? 1 : 0);
                due(7, "told back", outcome(() -> y.example(0)), isWord ? (Object) sign : INDEX);
                // the pattern that is found is a*b, the one on top is c?
                due(19, "matches " + number, outcome(() -> x.matches(number)), isWord ? (Object) (sign == 98) : ARGUMENT);
                due(29, "top matches " + number, outcome(() -> x.topMatches(number)),
                        isWord ? (Object) (sign == 99 || sign == 0) : ARGUMENT);
            }
        }
        for (long number : new long[] {-1, 1, 96, 100, Long.MAX_VALUE, Long.MIN_VALUE, w("ab") << 8 | 1}) {
            refused(2, "add " + number, WordsBoundaryTest::busy, y -> y.add(number, false), ARGUMENT);
            refused(19, "matches " + number, WordsBoundaryTest::busy, y -> y.matches(number), ARGUMENT);
            refused(29, "top matches " + number, WordsBoundaryTest::busy, y -> y.topMatches(number), ARGUMENT);
        }
    }

    // ---- bytes that are 0 are left out, the first letter is the highest byte

    private static void bytesLeftOut() {
        long[] ways = {0x616263L, 0x61626300L, 0x6162630000000000L, 0x6100006200000063L, 0x0061006200630000L,
            0x0000610000620063L, 0x6100000000006263L};
        for (long way : ways) {
            PatternFinder x = new PatternFinder();
            due(2, "add " + way, x.add(way, true), 0);
            due(7, "none is told back", x.example(0), w("abc"));
            due(10, "nor as a piece", x.piece(6), w("abc"));
            for (long other : ways) {
                refused(2, "the same word as " + other, () -> with("abc"), y -> y.add(other, false), STATE);
            }
            x.look(60);
            due(21, "nor as the first word", x.first(), w("abc"));
            due(19, "matches " + way, x.matches(way), true);
            due(29, "top matches " + way, built("ab.c.").topMatches(way), true);
        }
        due(2, "six letters and two bytes 0", new PatternFinder().add(0x6161610000616161L, true), 0);
        due(2, "eight bytes 0: the empty word", new PatternFinder().add(0x0000000000000000L, true), 0);
    }

    private static void firstLetterHighest() {
        PatternFinder x = built("ab.c.");
        due(29, "abc", x.topMatches(0x616263), true);
        due(29, "cba", x.topMatches(0x636261), false);
        PatternFinder y = with("abc");
        due(10, "ab, not ba", y.piece(4), 0x6162L);
        due(10, "bc, not cb", y.piece(5), 0x6263L);
    }

    private static void orderOfWords() {
        PatternFinder x = with("cb", "a", "bcc", "ab");
        String[] inOrder = {"", "a", "b", "c", "ab", "bc", "cb", "cc", "bcc"};
        due(9, "pieces", x.pieceCount(), inOrder.length);
        for (int piece = 0; piece < inOrder.length; piece++) {
            due(10, "lengths, then letters: " + piece, x.piece(piece), w(inOrder[piece]));
        }
        String[] examples = {"cb", "a", "bcc", "ab"};
        for (int example = 0; example < examples.length; example++) {
            due(7, "in the order of adding: " + example, x.example(example), w(examples[example]));
        }
        // words of one length: the first letter counts ahead of the second, and that one ahead of the third
        due(21, "the last letter counts least", found("bc ba", "b a c").first(), w("ba"));
        PatternFinder either = found("ca ac", "", 9, 1, 1, 9, 9, 1, 9);
        due(17, "one or the other", text(either), "ac|ca");
        due(21, "the first letter counts most", either.first(), w("ac"));
    }

    // ---- at most 10 examples, no word twice

    private static void tenExamples() {
        PatternFinder x = new PatternFinder();
        for (int example = 0; example < TEN.length; example++) {
            due(2, "add, " + example + " are there", x.add(w(TEN[example]), true), example);
            due(6, "then", x.exampleCount(), example + 1);
        }
        for (String word : List.of("cc", "ca", "aaa")) {
            refused(2, "an eleventh: " + word, () -> with(TEN), y -> y.add(w(word), true), STATE);
        }
        refused(2, "an eleventh that is there", () -> with(TEN), y -> y.add(w("a"), true), STATE);
        refused(2, "an eleventh that is no word", () -> with(TEN), y -> y.add(100, true), ARGUMENT);
        due(4, "nine are left", x.drop(), 9);
        due(2, "a tenth again", x.add(w("cc"), false), 9);
        due(7, "the tenth", x.example(9), w("cc"));
        due(8, "the tenth", x.isGood(9), false);
        due(3, "the tenth", x.mark(9, true), false);
        due(2, "an eleventh again", outcome(() -> x.add(0, true)), STATE);
        due(11, "a look with ten", with(TEN).look(60) != 0, true);
    }

    private static void noWordTwice() {
        String[] three = {"a", "", "cab"};
        for (String word : three) {
            refused(2, "twice: " + word, () -> with(three), x -> x.add(w(word), true), STATE);
            refused(2, "twice, bad: " + word, () -> with(three), x -> x.add(w(word), false), STATE);
        }
        // words that only look alike, or are pieces alone
        PatternFinder x = with(three);
        due(2, "a piece that is no example", x.add(w("ca"), true), 3);
        due(2, "another piece", x.add(w("b"), true), 4);
        due(2, "the letters in another order", x.add(w("bac"), true), 5);
        x.drop();
        due(2, "a dropped word", x.add(w("bac"), false), 5);
        due(8, "bad now", x.isGood(5), false);
    }

    // ---- the pieces: at most 60

    private static void piecesFollowEachOther() {
        PatternFinder x = new PatternFinder();
        due(9, "the empty word alone", x.pieceCount(), 1);
        x.add(0, false);
        due(9, "the empty word as an example", x.pieceCount(), 1);
        x.add(w("abc"), false);
        due(9, "ac is none: its letters do not follow each other", x.pieceCount(), 7);
        x.add(w("abcabc"), true);
        due(9, "those in several places once", x.pieceCount(), 16);
        x.mark(2, false);
        due(9, "good or bad", x.pieceCount(), 16);
        x.add(w("cab"), true);
        due(9, "an example that was a piece", x.pieceCount(), 16);
        due(9, "seven of one letter", with("aaaaaa").pieceCount(), 7);
        due(9, "all of six different", with("abcacb").pieceCount(), Reference.pieces(List.of("abcacb")).size());
    }

    private static void piecesOfFewerExamples() {
        PatternFinder x = with("ab", "abc", "ca");
        due(9, "pieces", x.pieceCount(), 8);
        x.drop();
        due(9, "ca is gone, a and c are not", x.pieceCount(), 7);
        x.drop();
        due(9, "those of ab", x.pieceCount(), 4);
        due(10, "ab", x.piece(3), w("ab"));
        x.drop();
        due(9, "the empty word", x.pieceCount(), 1);
        due(10, "the empty word", x.piece(0), 0L);
        due(2, "and again", x.add(w("bb"), true), 0);
        due(9, "pieces", x.pieceCount(), 3);
        due(10, "the empty word", x.piece(0), 0L);
        due(10, "b", x.piece(1), w("b"));
    }

    /** A finder from which a word was dropped is like one that never had it, in what it looks for as well. */
    private static void droppedWordsLeaveNothing() {
        PatternFinder x = finder("a ", "");
        x.add(w("c"), true);
        x.drop();
        due(11, "too cheap for a?", x.look(1), -1);
        due(12, "NOTHING, EMPTY and a; b and c are no pieces any more", x.kept(), 3);
        for (String dropped : List.of("b", "c", "bc", "cab", "bbb", "abcabc", "cccccc")) {
            PatternFinder y = finder("a ", "aa", 2, 1, 1, 1, 1, 1, 1);
            y.add(w(dropped), false);
            y.drop();
            String like = Transcript.of(finder("a ", "aa", 2, 1, 1, 1, 1, 1, 1));
            due(4, "what is left of " + dropped, Transcript.difference(Transcript.of(y), like), "none");
        }
    }

    private static void sixtyPieces() {
        due(9, "59", with(FIFTY_NINE).pieceCount(), 59);
        PatternFinder x = with(FIFTY_NINE);
        due(2, "59 and 1", x.add(w("aac"), true), 6);
        due(9, "60", x.pieceCount(), 60);
        due(10, "the last of them", x.piece(59), w("ccbcab"));
        due(2, "60 and none", x.add(w("aaaa"), false), 7);
        due(9, "60 still", x.pieceCount(), 60);
        Supplier<PatternFinder> sixty = () -> {
            PatternFinder y = with(FIFTY_NINE);
            y.add(w("aac"), true);
            return y;
        };
        refused(2, "60 and 1", sixty, y -> y.add(w("baa"), true), STATE);
        refused(2, "60 and 1", sixty, y -> y.add(w("aacc"), true), STATE);
        refused(2, "60 and 7", sixty, y -> y.add(w("abaaca"), true), STATE);
        refused(10, "piece 60", sixty, y -> y.piece(60), INDEX);
        // aac has room, but aaac has none: nothing of it may stay
        refused(2, "59 and 2", () -> with(FIFTY_NINE), y -> y.add(w("aaac"), true), STATE);
        refused(2, "59 and 10", () -> with(FIFTY_NINE), y -> y.add(w("ababbb"), true), STATE);
        PatternFinder z = with(FIFTY_NINE);
        outcome(() -> z.add(w("aaac"), true));
        due(2, "the next one, 59 and 1", z.add(w("aac"), true), 6);
        due(11, "a look with 60", z.look(2), -1);
        z.drop();
        due(9, "59 again", z.pieceCount(), 59);
        z.drop();
        due(9, "53", z.pieceCount(), 53);
        due(2, "53 and 8", outcome(() -> z.add(w("aaaaab"), true)), STATE);
        due(2, "53 and 7", z.add(w("aaaba"), true), 5);
        due(9, "60", z.pieceCount(), 60);
    }

    /** The first exception that is named: the word first, then all that has to do with the state. */
    private static void whichExceptionOfAdd() {
        Supplier<PatternFinder> full = () -> with(FIFTY_NINE[0], FIFTY_NINE[1], FIFTY_NINE[2], FIFTY_NINE[3],
                FIFTY_NINE[4], FIFTY_NINE[5], "aac", "a", "b", "c");
        due(6, "ten examples", full.get().exampleCount(), 10);
        due(9, "60 pieces", full.get().pieceCount(), 60);
        refused(2, "7 letters", full, x -> x.add(w("aaaaaaa"), true), ARGUMENT);
        refused(2, "no word", full, x -> x.add(-1, false), ARGUMENT);
        refused(2, "there, full, no room", full, x -> x.add(w("a"), true), STATE);
        refused(2, "full, no room", full, x -> x.add(w("bbbbbb"), true), STATE);
        refused(2, "full", full, x -> x.add(0, true), STATE);
    }

    // ---- promise 1

    private static void newObject() {
        PatternFinder x = new PatternFinder();
        due(6, "no examples", x.exampleCount(), 0);
        due(13, "nothing was found", x.isFound(), false);
        due(12, "no look", x.kept(), 0);
        refused(27, "no pattern on the pile", PatternFinder::new, PatternFinder::pop, STATE);
        refused(4, "no example to drop", PatternFinder::new, PatternFinder::drop, STATE);
        PatternFinder y = new PatternFinder();
        for (int kind = 0; kind < 7; kind++) {
            due(5, "each cost is 1", y.setCost(kind, 1), 1);
        }
    }

    // ---- the ranges of promises 3, 7, 8 and 10

    private static void exampleNumbers() {
        for (int count = 0; count <= 10; count++) {
            String[] words = new String[count];
            System.arraycopy(TEN, 0, words, 0, count);
            Supplier<PatternFinder> made = () -> with(words);
            for (int wrong : new int[] {LEAST, -2, -1, count, count + 1, 10, 11, 59, 60, GREATEST}) {
                if (wrong >= 0 && wrong < count) {
                    continue;
                }
                String what = "number " + wrong + " of " + count;
                refused(3, what, made, x -> x.mark(wrong, true), INDEX);
                refused(3, what, made, x -> x.mark(wrong, false), INDEX);
                refused(7, what, made, x -> x.example(wrong), INDEX);
                refused(8, what, made, x -> x.isGood(wrong), INDEX);
            }
            PatternFinder x = made.get();
            for (int example = 0; example < count; example++) {
                due(7, "word " + example, x.example(example), w(TEN[example]));
                due(8, "good " + example, x.isGood(example), example % 2 == 0);
                due(3, "mark " + example, x.mark(example, example % 2 != 0), example % 2 == 0);
                due(3, "mark it so again", x.mark(example, example % 2 != 0), example % 2 != 0);
                due(8, "good then " + example, x.isGood(example), example % 2 != 0);
            }
        }
        // a number that an example had before it was dropped is one no more
        Supplier<PatternFinder> dropped = () -> {
            PatternFinder x = with("a", "b");
            x.drop();
            return x;
        };
        refused(3, "dropped", dropped, x -> x.mark(1, true), INDEX);
        refused(7, "dropped", dropped, x -> x.example(1), INDEX);
        refused(8, "dropped", dropped, x -> x.isGood(1), INDEX);
        refused(3, "found, and a wrong number", WordsBoundaryTest::busy, x -> x.mark(5, true), INDEX);
    }

    private static void pieceNumbers() {
        for (String[] words : new String[][] {{}, {""}, {"a"}, {"ab", "ca"}, FIFTY_NINE}) {
            Supplier<PatternFinder> made = () -> with(words);
            List<String> pieces = List.copyOf(Reference.pieces(List.of(words)));
            PatternFinder x = made.get();
            due(9, "pieces", x.pieceCount(), pieces.size());
            for (int piece = 0; piece < pieces.size(); piece++) {
                due(10, "piece " + piece, x.piece(piece), w(pieces.get(piece)));
            }
            for (int wrong : new int[] {LEAST, -1, pieces.size(), pieces.size() + 1, 60, 61, GREATEST}) {
                refused(10, "piece " + wrong + " of " + pieces.size(), made, y -> y.piece(wrong), INDEX);
            }
        }
    }

    // ---- promise 4

    private static void dropping() {
        PatternFinder x = with(TEN);
        for (int left = 9; left >= 0; left--) {
            due(4, "left", x.drop(), left);
            due(6, "left", x.exampleCount(), left);
            if (left > 0) {
                due(7, "the last is gone", x.example(left - 1), w(TEN[left - 1]));
            }
        }
        due(4, "none", outcome(x::drop), STATE);
        due(6, "none still", x.exampleCount(), 0);
        due(2, "the next number is 0", x.add(w("c"), true), 0);
        Supplier<PatternFinder> foundWithout = () -> {
            PatternFinder y = build(new PatternFinder(), "a1");
            y.look(60);
            return y;
        };
        refused(4, "none, and found", foundWithout, PatternFinder::drop, STATE);
    }

    // ---- promise 5: kinds 0 to 6, costs 1 to 9

    private static void costs() {
        for (int kind = 0; kind <= 6; kind++) {
            PatternFinder x = new PatternFinder();
            for (int cost = 1; cost <= 9; cost++) {
                due(5, "before", x.setCost(kind, cost), Math.max(1, cost - 1));
            }
            due(5, "9 before", x.setCost(kind, 9), 9);
            for (int other = 0; other <= 6; other++) {
                due(5, "each its own", x.setCost(other, 5), other == kind ? 9 : 1);
            }
            int which = kind;
            for (int cost : new int[] {LEAST, -1, 0, 10, 11, GREATEST}) {
                refused(5, "cost " + cost, WordsBoundaryTest::busy, y -> y.setCost(which, cost), ARGUMENT);
            }
        }
        for (int kind : new int[] {LEAST, -1, 7, 8, GREATEST}) {
            for (int cost : new int[] {LEAST, 0, 1, 5, 9, 10, GREATEST}) {
                refused(5, "kind " + kind + ", cost " + cost, WordsBoundaryTest::busy,
                        y -> y.setCost(kind, cost), INDEX);
            }
        }
    }
}
