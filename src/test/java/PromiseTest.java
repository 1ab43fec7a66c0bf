/** Each promise of the document by hand: ordinary inputs, the edges that it names, and wrong inputs. */
public final class PromiseTest extends Checks {
    private static final String[] SIXTY = {"cacbba", "ccbcab", "cbccab", "acbcac", "acacca", "cccabc"};

    public static void main(String[] args) {
        newObject();
        wordsAsNumbers();
        add();
        addLimits();
        mark();
        drop();
        setCost();
        examples();
        pieces();
        look();
        lookOrder();
        lookLimits();
        whatIsForgotten();
        whatIsKeptOnExceptions();
        nodes();
        texts();
        matches();
        countAndFirst();
        share();
        push();
        wrap();
        join();
        take();
        pop();
        topCost();
        topMatches();
        topWrong();
        digest();
        nothingFound();
        end("PromiseTest");
    }

    // ---- promise 1

    private static void newObject() {
        PatternFinder x = new PatternFinder();
        due(1, "examples", x.exampleCount(), 0);
        due(1, "pieces: the empty word", x.pieceCount(), 1);
        due(1, "piece 0", x.piece(0), 0L);
        due(1, "found", x.isFound(), false);
        due(1, "kept", x.kept(), 0);
        due(1, "take", outcome(x::take), STATE);
        due(1, "pop", outcome(x::pop), STATE);
        for (int kind = 0; kind < 7; kind++) {
            due(1, "cost at first", x.setCost(kind, 1), 1);
        }
        PatternFinder y = new PatternFinder();
        x.add(w("ab"), true);
        x.setCost(2, 7);
        x.push(1, 0);
        due(1, "another object is not touched", y.digest(), new PatternFinder().digest());
    }

    // ---- promise 2, and the words of the description

    private static void wordsAsNumbers() {
        PatternFinder x = new PatternFinder();
        due(2, "byte 96", outcome(() -> x.add(96, true)), ARGUMENT);
        due(2, "byte 100", outcome(() -> x.add(100, true)), ARGUMENT);
        due(2, "byte 1", outcome(() -> x.add(0x6101, true)), ARGUMENT);
        due(2, "byte 255 highest", outcome(() -> x.add(0xff00000000000061L, true)), ARGUMENT);
        due(2, "-1", outcome(() -> x.add(-1, true)), ARGUMENT);
        due(2, "least long", outcome(() -> x.add(Long.MIN_VALUE, true)), ARGUMENT);
        due(2, "greatest long", outcome(() -> x.add(Long.MAX_VALUE, true)), ARGUMENT);
        due(2, "7 letters", outcome(() -> x.add(w("aaaaaaa"), true)), ARGUMENT);
        due(2, "8 letters", outcome(() -> x.add(w("abcabcab"), true)), ARGUMENT);
        due(2, "7 letters round a byte 0", outcome(() -> x.add(0x6161616100616161L, true)), ARGUMENT);
        due(2, "nothing was added", x.exampleCount(), 0);
        due(2, "bytes 0 are left out", x.add(0x6100620000000063L, true), 0);
        due(7, "none is told back", x.example(0), w("abc"));
        due(2, "the same word, told otherwise", outcome(() -> x.add(0x0061626300000000L, false)), STATE);
        due(2, "6 letters in 8 bytes", x.add(0x6162630000616263L, false), 1);
        due(7, "6 letters", x.example(1), w("abcabc"));
        due(19, "byte 0 in a word", found("a", "").matches(0x6100000000000000L), true);
    }

    private static void add() {
        PatternFinder x = new PatternFinder();
        due(2, "first number", x.add(w("b"), true), 0);
        due(2, "second number", x.add(w("a"), false), 1);
        due(2, "the empty word", x.add(0, false), 2);
        due(8, "good", x.isGood(0), true);
        due(8, "bad", x.isGood(1), false);
        due(2, "again, as it is", outcome(() -> x.add(w("b"), true)), STATE);
        due(2, "again, otherwise", outcome(() -> x.add(w("b"), false)), STATE);
        due(8, "still good", x.isGood(0), true);
        due(6, "still three", x.exampleCount(), 3);
        x.drop();
        due(2, "the number of a dropped one", x.add(w("c"), true), 2);
        due(2, "a dropped word again", x.add(0, true), 3);
    }

    private static void addLimits() {
        PatternFinder x = new PatternFinder();
        String[] ten = {"a", "b", "c", "aa", "ab", "ac", "ba", "bb", "bc", ""};
        for (String word : ten) {
            x.add(w(word), true);
        }
        due(2, "an eleventh example", outcome(() -> x.add(w("cc"), true)), STATE);
        due(2, "a wrong word when it is full", outcome(() -> x.add(4, true)), ARGUMENT);
        due(6, "still ten", x.exampleCount(), 10);
        due(9, "no piece came along", x.pieceCount(), 10);

        PatternFinder y = new PatternFinder();
        for (String word : SIXTY) {
            y.add(w(word), true);
        }
        due(9, "sixty pieces", y.pieceCount(), 60);
        long before = y.digest();
        due(2, "one piece too many", outcome(() -> y.add(w("aa"), true)), STATE);
        due(2, "more pieces too many", outcome(() -> y.add(w("bbbbbb"), true)), STATE);
        due(2, "nothing changed", y.digest(), before);
        due(10, "the last piece", y.piece(59), w("cccabc"));
        due(10, "no piece behind it", outcome(() -> y.piece(60)), INDEX);
        due(2, "a piece as an example", y.add(w("cab"), false), 6);
        due(9, "still sixty pieces", y.pieceCount(), 60);
        due(2, "a wrong word", outcome(() -> y.add(w("aaaaaaa"), true)), ARGUMENT);
    }

    // ---- promises 3 to 5

    private static void mark() {
        PatternFinder x = new PatternFinder();
        due(3, "no example", outcome(() -> x.mark(0, true)), INDEX);
        x.add(w("a"), true);
        x.add(w("b"), false);
        due(3, "good before", x.mark(0, false), true);
        due(8, "bad then", x.isGood(0), false);
        due(3, "bad before", x.mark(0, true), false);
        due(8, "good then", x.isGood(0), true);
        due(3, "the same again", x.mark(0, true), true);
        due(8, "the other one is not touched", x.isGood(1), false);
        due(3, "behind the last", outcome(() -> x.mark(2, true)), INDEX);
        due(3, "-1", outcome(() -> x.mark(-1, true)), INDEX);
        due(3, "far off", outcome(() -> x.mark(Integer.MAX_VALUE, true)), INDEX);
        due(3, "far below", outcome(() -> x.mark(Integer.MIN_VALUE, true)), INDEX);
    }

    private static void drop() {
        PatternFinder x = new PatternFinder();
        due(4, "none", outcome(x::drop), STATE);
        x.add(w("ab"), true);
        x.add(w("bc"), true);
        due(9, "pieces of both", x.pieceCount(), 6);
        due(4, "one left", x.drop(), 1);
        due(7, "the first one stays", x.example(0), w("ab"));
        due(7, "the last one is gone", outcome(() -> x.example(1)), INDEX);
        due(9, "pieces of the first", x.pieceCount(), 4);
        due(10, "piece 3", x.piece(3), w("ab"));
        due(4, "none left", x.drop(), 0);
        due(9, "the empty word is left", x.pieceCount(), 1);
        due(4, "none again", outcome(x::drop), STATE);
        PatternFinder y = new PatternFinder();
        for (String word : SIXTY) {
            y.add(w(word), true);
        }
        y.drop();
        due(4, "a word has room again", y.add(w("aa"), true), 5);
    }

    private static void setCost() {
        PatternFinder x = new PatternFinder();
        due(5, "before: 1", x.setCost(0, 9), 1);
        due(5, "before: 9", x.setCost(0, 4), 9);
        due(5, "the last kind", x.setCost(6, 2), 1);
        due(5, "kind 7", outcome(() -> x.setCost(7, 1)), INDEX);
        due(5, "kind -1", outcome(() -> x.setCost(-1, 1)), INDEX);
        due(5, "cost 0", outcome(() -> x.setCost(0, 0)), ARGUMENT);
        due(5, "cost 10", outcome(() -> x.setCost(0, 10)), ARGUMENT);
        due(5, "cost -1", outcome(() -> x.setCost(0, -1)), ARGUMENT);
        due(5, "both wrong", outcome(() -> x.setCost(7, 10)), INDEX);
        due(5, "a refused cost changes nothing", x.setCost(0, 1), 4);
    }

    // ---- promises 6 to 10

    private static void examples() {
        PatternFinder x = new PatternFinder();
        due(6, "none", x.exampleCount(), 0);
        due(7, "no example", outcome(() -> x.example(0)), INDEX);
        due(8, "no example", outcome(() -> x.isGood(0)), INDEX);
        x.add(w("cb"), false);
        x.add(w("a"), true);
        due(6, "two", x.exampleCount(), 2);
        due(7, "in the order of adding", x.example(0), w("cb"));
        due(7, "in the order of adding", x.example(1), w("a"));
        due(7, "-1", outcome(() -> x.example(-1)), INDEX);
        due(7, "behind the last", outcome(() -> x.example(2)), INDEX);
        due(7, "behind ten", outcome(() -> x.example(10)), INDEX);
        due(8, "bad", x.isGood(0), false);
        due(8, "good", x.isGood(1), true);
        due(8, "-1", outcome(() -> x.isGood(-1)), INDEX);
        due(8, "behind the last", outcome(() -> x.isGood(2)), INDEX);
        due(8, "behind ten", outcome(() -> x.isGood(10)), INDEX);
    }

    private static void pieces() {
        PatternFinder x = new PatternFinder();
        x.add(w("cab"), true);
        x.add(w("ba"), false);
        String[] due = {"", "a", "b", "c", "ab", "ba", "ca", "cab"};
        due(9, "pieces", x.pieceCount(), due.length);
        for (int piece = 0; piece < due.length; piece++) {
            due(10, "piece " + piece, x.piece(piece), w(due[piece]));
        }
        due(10, "-1", outcome(() -> x.piece(-1)), INDEX);
        due(10, "behind the last", outcome(() -> x.piece(due.length)), INDEX);
        due(10, "far off", outcome(() -> x.piece(Integer.MAX_VALUE)), INDEX);
        x.add(w("aaaaaa"), true);
        due(9, "six letters of a kind", x.pieceCount(), due.length + 5);
    }

    // ---- promises 11 to 13

    private static void look() {
        PatternFinder x = new PatternFinder();
        due(11, "no examples: NOTHING", x.look(60), 1);
        due(12, "one kept", x.kept(), 1);
        due(13, "found", x.isFound(), true);
        due(15, "NOTHING", x.kind(0), 0);
        x.add(0, true);
        due(11, "EMPTY", x.look(1), 1);
        due(12, "two kept", x.kept(), 2);
        due(15, "EMPTY", x.kind(0), 1);
        x.add(w("c"), true);
        due(11, "too cheap", x.look(1), -1);
        due(13, "not found", x.isFound(), false);
        // of the letters, a and b are no pieces, and match what NOTHING matches
        due(12, "NOTHING, EMPTY and c", x.kept(), 3);
        due(11, "c?", x.look(2), 2);
        due(17, "c?", text(x), "c?");
        due(11, "0", outcome(() -> x.look(0)), ARGUMENT);
        due(11, "61", outcome(() -> x.look(61)), ARGUMENT);
        due(11, "-1", outcome(() -> x.look(-1)), ARGUMENT);
        due(11, "least", outcome(() -> x.look(Integer.MIN_VALUE)), ARGUMENT);
        due(13, "still found", x.isFound(), true);
        due(12, "still as kept", x.kept(), 4);

        PatternFinder y = new PatternFinder();
        y.setCost(0, 9);
        due(11, "no examples: EMPTY if it is cheaper", y.look(9), 1);
        due(15, "EMPTY", y.kind(0), 1);
        y.setCost(1, 9);
        due(11, "a letter that is no piece", y.look(9), 1);
        due(16, "the smallest letter", y.part(0, false), 97);
        y.setCost(2, 9);
        due(11, "all is too dear", y.look(8), -1);
        due(12, "none is kept", y.kept(), 0);
        due(11, "NOTHING at 9", y.look(9), 9);
    }

    private static void lookOrder() {
        // all letters alone: the one whose p comes first, and then the smaller ones
        due(11, "EITHER of a and another", text(found("a b c", "")), "a|(b|c)");
        due(11, "CHAIN of a and another", text(found("abc", " a b c ab bc")), "a(bc)");
        due(11, "OPTION comes ahead of REPEAT", text(found("a ", "b")), "a?");
        due(11, "CHAIN comes ahead of EITHER", text(found("aa", "a")), "aa");
        PatternFinder x = finder("a ", "b");
        x.setCost(3, 2);
        due(11, "REPEAT when it is cheaper", x.look(60), 2);
        due(17, "a*", text(x), "a*");
        x.setCost(4, 5);
        x.setCost(3, 5);
        // EITHER EMPTY a costs 3, and EMPTY comes ahead of a
        due(11, "EITHER when both are dear", x.look(60), 3);
        due(17, "1|a", text(x), "1|a");
        x.setCost(6, 9);
        due(11, "OPTION when all are dear", x.look(60), 6);
        due(17, "a?", text(x), "a?");
        x.setCost(1, 9);
        x.setCost(2, 8);
        due(11, "p may be a dear letter", x.look(60), 13);
        due(17, "a?", text(x), "a?");

        PatternFinder y = finder("ab ", "a b");
        due(11, "OPTION of a CHAIN", y.look(60), 4);
        due(17, "(ab)?", text(y), "(ab)?");
        y.mark(1, false);
        due(11, "then a CHAIN", y.look(60), 3);
        due(17, "ab", text(y), "ab");
    }

    private static void lookLimits() {
        PatternFinder x = finder("aabbcc abcabc", "aabcca bcbcab");
        due(11, "too many", x.look(60), -2);
        due(12, "120 are kept", x.kept(), 120);
        due(13, "not found", x.isFound(), false);
        due(11, "few are cheap", x.look(1), -1);
        due(12, "NOTHING, EMPTY and the letters", x.kept(), 5);
        due(11, "the greatest cost ends it earlier", x.look(3), -1);
        // a letter that is no piece has the table of NOTHING
        PatternFinder y = finder("", "");
        y.mark(0, false);
        y.setCost(0, 9);
        for (int kind = 1; kind < 7; kind++) {
            y.setCost(kind, 2);
        }
        due(11, "a letter in place of NOTHING", y.look(60), 2);
        due(17, "a", text(y), "a");
        // the look ends with the pattern that is found, ahead of the letter c
        PatternFinder z = finder("b", "a c");
        due(11, "b", z.look(60), 1);
        due(12, "NOTHING, EMPTY, a and b", z.kept(), 4);
        // the greatest cost that is allowed is allowed itself
        PatternFinder u = finder("a", "");
        u.setCost(2, 9);
        due(11, "a alone", u.look(8), -1);
        due(12, "NOTHING and EMPTY", u.kept(), 2);
        due(11, "a alone", u.look(9), 9);
        PatternFinder v = finder("abcabc", "");
        for (int kind = 0; kind < 7; kind++) {
            v.setCost(kind, 9);
        }
        due(11, "dear patterns, one too little", v.look(53), -1);
        due(11, "dear patterns", v.look(54), 54);
        due(17, "dear patterns", text(v), "(a(bc))*");
    }

    private static void whatIsForgotten() {
        PatternFinder x = found("a ", "b");
        x.mark(0, true);
        due(3, "mark forgets, also if it changes nothing", x.isFound(), false);
        x.look(60);
        x.setCost(4, 1);
        due(5, "setCost forgets, also if it changes nothing", x.isFound(), false);
        x.look(60);
        x.add(w("c"), false);
        due(2, "add forgets", x.isFound(), false);
        x.look(60);
        x.drop();
        due(4, "drop forgets", x.isFound(), false);
        x.look(60);
        due(11, "a look that finds none", x.look(1), -1);
        due(11, "forgets", x.isFound(), false);
        due(14, "nothing is found", outcome(x::nodeCount), STATE);
        x.look(60);
        int kept = x.kept();
        x.mark(0, true);
        due(12, "kept is not forgotten", x.kept(), kept);
        x.add(w("cc"), true);
        due(12, "kept is not forgotten", x.kept(), kept);
    }

    private static void whatIsKeptOnExceptions() {
        PatternFinder x = found("a ", "b");
        x.push(1, 0);
        long before = x.digest();
        outcome(() -> x.add(5, true));
        outcome(() -> x.add(w("a"), false));
        outcome(() -> x.mark(3, true));
        outcome(() -> x.setCost(7, 1));
        outcome(() -> x.setCost(0, 10));
        outcome(() -> x.look(0));
        outcome(() -> x.push(3, 97));
        outcome(() -> x.wrap(5));
        outcome(() -> x.join(5));
        due(31, "exceptions change nothing", x.digest(), before);
        due(13, "found stays", x.isFound(), true);
        x.push(2, 97);
        x.wrap(3);
        x.join(6);
        x.take();
        x.pop();
        due(13, "the pile does not touch what was found", text(x), "a?");
    }

    // ---- promises 14 to 18

    private static void nodes() {
        PatternFinder x = found("ab bb bbab abb", " a ba");
        due(17, "text", text(x), "(a|b)*b");
        due(14, "nodes", x.nodeCount(), 6);
        int[] kinds = {5, 4, 6, 2, 2, 2};
        int[] firsts = {1, 2, 3, 97, 98, 98};
        int[] seconds = {5, -1, 4, -1, -1, -1};
        for (int node = 0; node < kinds.length; node++) {
            int which = node;
            due(15, "kind " + node, x.kind(node), kinds[node]);
            due(16, "p of " + node, x.part(which, false), firsts[node]);
            due(16, "q of " + node, x.part(which, true), seconds[node]);
        }
        due(15, "-1", outcome(() -> x.kind(-1)), INDEX);
        due(15, "behind the last", outcome(() -> x.kind(6)), INDEX);
        due(15, "far off", outcome(() -> x.kind(Integer.MAX_VALUE)), INDEX);
        due(16, "-1", outcome(() -> x.part(-1, false)), INDEX);
        due(16, "-1", outcome(() -> x.part(-1, true)), INDEX);
        due(16, "behind the last", outcome(() -> x.part(6, false)), INDEX);
        due(16, "far off", outcome(() -> x.part(Integer.MAX_VALUE, true)), INDEX);
        PatternFinder y = found("", "");
        due(14, "one node", y.nodeCount(), 1);
        due(16, "EMPTY has no p", y.part(0, false), -1);
        due(16, "EMPTY has no q", y.part(0, true), -1);
        PatternFinder z = found("a ", "b");
        due(16, "p of OPTION", z.part(0, false), 1);
        due(16, "OPTION has no q", z.part(0, true), -1);
        due(15, "its letter", z.kind(1), 2);
    }

    private static void texts() {
        PatternFinder none = new PatternFinder();
        none.look(1);
        due(17, "NOTHING", text(none), "0");
        due(17, "size", none.textSize(), 1);
        due(18, "sign", none.text(0), 48);
        due(18, "-1", outcome(() -> none.text(-1)), INDEX);
        due(18, "behind the last", outcome(() -> none.text(1)), INDEX);
        due(18, "far off", outcome(() -> none.text(Integer.MAX_VALUE)), INDEX);
        due(17, "EMPTY", text(found("", "a")), "1");
        due(17, "OPTION of a letter", text(found(" b", "bb")), "b?");
        due(17, "REPEAT of a letter", text(found(" b bbb", "a")), "b*");
        due(17, "OPTION of a CHAIN", text(found(" ab", "a b")), "(ab)?");
        due(17, "REPEAT of a CHAIN", text(found(" ab abab", "a b ba")), "(ab)*");
        due(17, "REPEAT of an EITHER", text(found(" ab ba", "c")), "(a|b)*");
        due(17, "p of a CHAIN an EITHER", text(found("ac bc", " a b c")), "(a|b)c");
        due(17, "q of a CHAIN an EITHER", text(found("ab ac", " a b c")), "a(b|c)");
        due(17, "q of a CHAIN a CHAIN", text(found("abc", " a b c ab bc")), "a(bc)");
        due(17, "q of a CHAIN a REPEAT", text(found("a ab abb", "b ba ")), "ab*");
        due(17, "q of an EITHER an EITHER", text(found("a b c", "")), "a|(b|c)");
        due(17, "q of an EITHER a CHAIN", text(found("a bc", " b c ab")), "a|bc");
        PatternFinder longest = found("ac bc", " a b c");
        due(17, "size", longest.textSize(), 6);
        due(18, "bracket", longest.text(0), 40);
        due(18, "stroke", longest.text(2), 124);
        due(18, "bracket", longest.text(4), 41);
        due(18, "behind the last", outcome(() -> longest.text(6)), INDEX);
    }

    // ---- promises 19 to 22

    private static void matches() {
        PatternFinder x = found("ab bb bbab abb", " a ba");
        due(19, "an example", x.matches(w("ab")), true);
        due(19, "a bad example", x.matches(w("ba")), false);
        due(19, "b", x.matches(w("b")), true);
        due(19, "no piece", x.matches(w("aaaaab")), true);
        due(19, "no piece", x.matches(w("aaaaba")), false);
        due(19, "another letter", x.matches(w("cb")), false);
        due(19, "the empty word", x.matches(0), false);
        due(19, "no word", outcome(() -> x.matches(100)), ARGUMENT);
        due(19, "7 letters", outcome(() -> x.matches(w("bbbbbbb"))), ARGUMENT);
        due(19, "-1", outcome(() -> x.matches(-1)), ARGUMENT);
        PatternFinder y = found("ab", "a b");
        due(19, "ab", y.matches(w("ab")), true);
        due(19, "abab", y.matches(w("abab")), false);
    }

    private static void countAndFirst() {
        PatternFinder x = found("ab bb bbab abb", " a ba");
        int[] due = {0, 1, 2, 4, 8, 16, 32};
        for (int letters = 0; letters < due.length; letters++) {
            due(20, "words of " + letters, x.count(letters), due[letters]);
        }
        due(20, "-1", outcome(() -> x.count(-1)), ARGUMENT);
        due(20, "7", outcome(() -> x.count(7)), ARGUMENT);
        due(21, "first", x.first(), w("b"));
        PatternFinder all = found(" a b c ab bc ca", "");
        due(17, "all words", text(all), "(a|(b|c))*");
        due(20, "all of 6", all.count(6), 729);
        due(20, "all of 0", all.count(0), 1);
        due(21, "the empty word first", all.first(), 0L);
        PatternFinder none = found("", "");
        none.drop();
        none.look(1);
        due(20, "NOTHING", none.count(0), 0);
        due(20, "NOTHING", none.count(6), 0);
        due(21, "NOTHING", none.first(), -1L);
        due(21, "the length goes ahead of the letters", found("c ab", "b a bc").first(), w("c"));
        due(21, "6 letters", found("cccccc", "c cc ccc cccc ccccc ").first(), w("cccccc"));
    }

    private static void share() {
        due(22, "half", found("a", "").share(), 0.5);
        due(22, "all", found("a ", "").share(), 1.0);
        PatternFinder none = new PatternFinder();
        none.look(1);
        due(22, "none", none.share(), 0.0);
        PatternFinder x = found("ab", "a b");
        due(22, "a quarter", x.share(), 0.25);
        PatternFinder y = found("abc", "");
        due(22, "1 of 7", y.share(), 1.0 / 7);
    }

    // ---- promises 23 to 27

    private static void push() {
        PatternFinder x = new PatternFinder();
        due(23, "NOTHING", x.push(0, -5), 1);
        due(23, "EMPTY", x.push(1, Integer.MAX_VALUE), 2);
        due(23, "a", x.push(2, 97), 3);
        due(23, "c", x.push(2, 99), 4);
        due(29, "c", x.topMatches(w("c")), true);
        due(23, "byte 96", outcome(() -> x.push(2, 96)), ARGUMENT);
        due(23, "byte 100", outcome(() -> x.push(2, 100)), ARGUMENT);
        due(23, "a and more", outcome(() -> x.push(2, 97 + 256)), ARGUMENT);
        due(23, "kind 3", outcome(() -> x.push(3, 97)), ARGUMENT);
        due(23, "kind -1", outcome(() -> x.push(-1, 97)), ARGUMENT);
        for (int size = 5; size <= 12; size++) {
            due(23, "more", x.push(1, 0), size);
        }
        due(23, "a thirteenth", outcome(() -> x.push(1, 0)), STATE);
        due(23, "a wrong kind on a full pile", outcome(() -> x.push(7, 0)), ARGUMENT);
        due(24, "OPTION on a full pile", x.wrap(3), 2);
        due(28, "cost on a full pile", x.topCost(), 2);
        due(29, "matching on a full pile", x.topMatches(0), true);
        due(30, "wrong ones on a full pile", x.topWrong(), 0);
        due(23, "a wrong letter on a full pile", outcome(() -> x.push(2, 0)), ARGUMENT);
        due(25, "CHAIN on a full pile", x.join(5), 4);
        due(27, "eleven, and one less", x.pop(), 10);
    }

    private static void wrap() {
        PatternFinder x = new PatternFinder();
        due(24, "empty pile", outcome(() -> x.wrap(3)), STATE);
        due(24, "wrong kind on an empty pile", outcome(() -> x.wrap(2)), ARGUMENT);
        x.push(2, 98);
        due(24, "kind 5", outcome(() -> x.wrap(5)), ARGUMENT);
        due(24, "kind -1", outcome(() -> x.wrap(-1)), ARGUMENT);
        due(24, "REPEAT", x.wrap(4), 2);
        due(29, "bb", x.topMatches(w("bb")), true);
        due(24, "OPTION", x.wrap(3), 3);
        for (int nodes = 4; nodes <= 60; nodes++) {
            due(24, "more nodes", x.wrap(3 + nodes % 2), nodes);
        }
        due(24, "61 nodes", outcome(() -> x.wrap(3)), STATE);
        due(24, "wrong kind with 60 nodes", outcome(() -> x.wrap(6)), ARGUMENT);
        due(28, "still 60 nodes", x.topCost(), 60);
        due(29, "deep", x.topMatches(w("bbbbbb")), true);
        due(29, "deep", x.topMatches(w("bbabbb")), false);
        PatternFinder y = new PatternFinder();
        y.push(2, 97);
        y.wrap(3);
        due(29, "OPTION of a", y.topMatches(w("aa")), false);
        due(29, "OPTION of a", y.topMatches(0), true);
        y.push(0, 0);
        y.wrap(4);
        due(29, "REPEAT of NOTHING", y.topMatches(0), true);
        due(29, "REPEAT of NOTHING", y.topMatches(w("a")), false);
    }

    private static void join() {
        PatternFinder x = new PatternFinder();
        due(25, "empty pile", outcome(() -> x.join(5)), STATE);
        due(25, "wrong kind on an empty pile", outcome(() -> x.join(4)), ARGUMENT);
        x.push(2, 97);
        due(25, "one pattern", outcome(() -> x.join(6)), STATE);
        x.push(2, 98);
        due(25, "kind 7", outcome(() -> x.join(7)), ARGUMENT);
        due(25, "CHAIN", x.join(5), 3);
        due(29, "q is the one that was on top", x.topMatches(w("ab")), true);
        due(29, "p is the other one", x.topMatches(w("ba")), false);
        due(27, "one pattern is left", x.pop(), 0);

        x.push(0, 0);
        x.push(2, 97);
        x.push(2, 98);
        due(25, "EITHER", x.join(6), 3);
        due(29, "a", x.topMatches(w("a")), true);
        due(29, "b", x.topMatches(w("b")), true);
        due(29, "ab", x.topMatches(w("ab")), false);
        due(27, "two patterns are left", x.pop(), 1);

        // 30 and 29 nodes make 60; 30 and 30 would make 61
        PatternFinder y = new PatternFinder();
        y.push(2, 97);
        wrapTimes(y, 28);
        y.push(2, 98);
        wrapTimes(y, 29);
        y.push(2, 99);
        wrapTimes(y, 29);
        due(25, "61 nodes", outcome(() -> y.join(5)), STATE);
        due(25, "wrong kind with 61 nodes", outcome(() -> y.join(3)), ARGUMENT);
        y.pop();
        due(25, "60 nodes", y.join(5), 60);
        due(29, "of 60 nodes", y.topMatches(w("aaabbb")), true);
        due(29, "of 60 nodes", y.topMatches(w("ba")), false);
        y.push(1, 0);
        due(25, "60 and 1 nodes", outcome(() -> y.join(6)), STATE);
        due(27, "nothing changed", y.pop(), 1);
    }

    private static void take() {
        PatternFinder x = found("a ", "b");
        x.push(2, 99);
        due(26, "take", x.take(), 2);
        due(29, "a?", x.topMatches(w("a")), true);
        due(29, "a?", x.topMatches(w("c")), false);
        due(28, "cost", x.topCost(), 2);
        due(25, "joined", x.join(5), 4);
        due(29, "ca?", x.topMatches(w("ca")), true);
        for (int size = 2; size <= 12; size++) {
            due(26, "more", x.take(), size);
        }
        due(26, "a thirteenth", outcome(x::take), STATE);
        x.pop();
        x.setCost(0, 1);
        due(26, "nothing is found", outcome(x::take), STATE);
        due(27, "what was taken stays", x.pop(), 10);
        due(29, "what was taken stays", x.topMatches(w("a")), true);
    }

    private static void pop() {
        PatternFinder x = new PatternFinder();
        due(27, "empty", outcome(x::pop), STATE);
        x.push(2, 97);
        x.push(2, 98);
        due(27, "one left", x.pop(), 1);
        due(29, "the one below", x.topMatches(w("a")), true);
        due(27, "none left", x.pop(), 0);
        due(27, "empty", outcome(x::pop), STATE);
    }

    // ---- promises 28 to 31

    private static void topCost() {
        PatternFinder x = new PatternFinder();
        due(28, "empty", outcome(x::topCost), STATE);
        x.push(2, 97);
        x.push(1, 0);
        x.join(6);
        x.wrap(4);
        due(28, "four nodes", x.topCost(), 4);
        x.setCost(2, 9);
        due(28, "a dear letter", x.topCost(), 12);
        x.setCost(4, 3);
        x.setCost(6, 5);
        x.setCost(1, 2);
        due(28, "all dear", x.topCost(), 19);
        x.setCost(0, 9);
        x.setCost(3, 9);
        x.setCost(5, 9);
        due(28, "kinds that it has not", x.topCost(), 19);
        PatternFinder y = new PatternFinder();
        y.push(0, 0);
        wrapTimes(y, 59);
        y.setCost(4, 9);
        due(28, "60 nodes", y.topCost(), 1 + 59 * 9);
    }

    private static void topMatches() {
        PatternFinder x = new PatternFinder();
        due(29, "empty", outcome(() -> x.topMatches(0)), STATE);
        due(29, "empty, and no word", outcome(() -> x.topMatches(5)), STATE);
        x.push(0, 0);
        due(29, "NOTHING", x.topMatches(0), false);
        due(29, "no word", outcome(() -> x.topMatches(5)), ARGUMENT);
        due(29, "7 letters", outcome(() -> x.topMatches(w("aaaaaaa"))), ARGUMENT);
        x.push(1, 0);
        due(29, "EMPTY", x.topMatches(0), true);
        due(29, "EMPTY", x.topMatches(w("a")), false);
        x.push(2, 98);
        due(29, "b", x.topMatches(w("b")), true);
        due(29, "b", x.topMatches(w("a")), false);
        due(29, "b, with bytes 0", x.topMatches(0x62000000L), true);
        // (ab|b)* with c behind it
        x.push(2, 97);
        x.push(2, 98);
        x.join(5);
        x.push(2, 98);
        x.join(6);
        x.wrap(4);
        x.push(2, 99);
        x.join(5);
        due(29, "c", x.topMatches(w("c")), true);
        due(29, "abbabc", x.topMatches(w("abbabc")), true);
        due(29, "bbbbbc", x.topMatches(w("bbbbbc")), true);
        due(29, "aabc", x.topMatches(w("aabc")), false);
        due(29, "abab", x.topMatches(w("abab")), false);
    }

    private static void topWrong() {
        PatternFinder x = finder("a aa", "b ");
        due(30, "empty", outcome(x::topWrong), STATE);
        x.push(2, 97);
        due(30, "aa is not matched", x.topWrong(), 1);
        x.wrap(4);
        due(30, "the empty word is matched", x.topWrong(), 1);
        x.push(2, 98);
        due(30, "all wrong but the empty word", x.topWrong(), 3);
        x.wrap(3);
        due(30, "all wrong", x.topWrong(), 4);
        x.mark(0, false);
        due(30, "one is bad now", x.topWrong(), 3);
        x.push(0, 0);
        due(30, "NOTHING", x.topWrong(), 1);
        PatternFinder y = new PatternFinder();
        y.push(0, 0);
        due(30, "no examples", y.topWrong(), 0);
    }

    private static void digest() {
        PatternFinder x = new PatternFinder();
        due(31, "a new object", x.digest(), chain(0, 1, 1, 1, 1, 1, 1, 1, 1, 0, 0));
        x.add(0x6100620000000000L, true);
        x.add(w("c"), false);
        x.setCost(0, 2);
        x.setCost(6, 9);
        due(31, "examples and costs", x.digest(),
                chain(2, w("ab"), 1, w("c"), 0, 2, 1, 1, 1, 1, 1, 9, 5, 0, 0));
        x.look(60);
        due(31, "found", x.digest(),
                chain(2, w("ab"), 1, w("c"), 0, 2, 1, 1, 1, 1, 1, 9, 5, 1, 3, 5, 2, 2, 0));
        x.take();
        x.push(0, 0);
        due(31, "pile", x.digest(),
                chain(2, w("ab"), 1, w("c"), 0, 2, 1, 1, 1, 1, 1, 9, 5, 1, 3, 5, 2, 2, 2, 3, 2));
        x.setCost(5, 4);
        due(31, "dearer", x.digest(),
                chain(2, w("ab"), 1, w("c"), 0, 2, 1, 1, 1, 1, 4, 9, 5, 0, 2, 6, 2));
    }

    private static void nothingFound() {
        PatternFinder x = new PatternFinder();
        due(14, "nothing is found", outcome(x::nodeCount), STATE);
        due(15, "nothing is found", outcome(() -> x.kind(-1)), STATE);
        due(16, "nothing is found", outcome(() -> x.part(-1, true)), STATE);
        due(17, "nothing is found", outcome(x::textSize), STATE);
        due(18, "nothing is found", outcome(() -> x.text(-1)), STATE);
        due(19, "nothing is found", outcome(() -> x.matches(-1)), STATE);
        due(20, "nothing is found", outcome(() -> x.count(-1)), STATE);
        due(21, "nothing is found", outcome(x::first), STATE);
        due(22, "nothing is found", outcome(x::share), STATE);
        due(26, "nothing is found", outcome(x::take), STATE);
    }

    // ---- helper

    private static long chain(long... numbers) {
        long d = 167;
        for (long number : numbers) {
            d = d * 31 + number;
        }
        return d;
    }
}
