import java.util.ArrayList;
import java.util.List;
import java.util.Random;
import java.util.function.Supplier;
import java.util.regex.Pattern;

/** Long runs of calls, drawn by fixed seeds: each answer is compared with that of Reference. */
public final class RandomRunsTest {
    private static final int RUNS = 400;
    private static final int CALLS = 512;

    private static int wrong = 0;
    private static int looksThatFound = 0;
    private static int looksWithNone = 0;
    private static int looksOverfull = 0;
    private static int piecesRefused = 0;

    private final Random random;
    private final long seed;
    private final PatternFinder finder = new PatternFinder();
    private final Reference reference = new Reference();
    private final int letters;
    private final int longest;
    private final int shortest;
    private final StringBuilder log = new StringBuilder();

    private RandomRunsTest(long seed) {
        this.seed = seed;
        random = new Random(seed);
        letters = 1 + random.nextInt(3);
        longest = 1 + random.nextInt(6);
        shortest = random.nextInt(4) == 0 ? longest : 0;
    }

    public static void main(String[] args) {
        for (int run = 1; run <= RUNS && wrong == 0; run++) {
            new RandomRunsTest(run).run();
        }
        need("looks that find", looksThatFound, 1000);
        need("looks without a pattern", looksWithNone, 100);
        need("looks that would keep too many", looksOverfull, 100);
        need("words with too many pieces", piecesRefused, 100);
        System.out.println("RandomRunsTest: " + RUNS + " runs, " + looksThatFound + " looks found a pattern, "
                + looksWithNone + " found none, " + looksOverfull + " would have kept too many, "
                + piecesRefused + " words had too many pieces");
        if (wrong != 0) {
            System.exit(1);
        }
    }

    private static void need(String what, int times, int least) {
        if (times < least && wrong == 0) {
            wrong++;
            System.out.println("RandomRunsTest: only " + times + " " + what);
        }
    }

    private void run() {
        for (int call = 0; call < CALLS && wrong == 0; call++) {
            anyCall();
            same("isFound()", finder::isFound, () -> reference.found != null);
            if (call % 8 == 0) {
                same("digest()", finder::digest, reference::digest);
            }
        }
        if (wrong == 0) {
            everything();
        }
    }

    // ---- one call on both

    private void anyCall() {
        switch (random.nextInt(33)) {
            case 0: case 1: case 2: add(); break;
            case 3: mark(); break;
            case 4: drop(); break;
            case 5: setCost(); break;
            case 6: same("exampleCount()", finder::exampleCount, reference.words::size); break;
            case 7: example(); break;
            case 8: same("pieceCount()", finder::pieceCount, reference.pieces()::size); break;
            case 9: piece(); break;
            case 10: case 11: case 12: case 13: case 14: look(); break;
            case 15: same("kept()", finder::kept, () -> reference.kept); break;
            case 16: nodes(); break;
            case 17: texts(); break;
            case 18: matches(); break;
            case 19: count(); break;
            case 20: same("first()", finder::first, this::firstDue); break;
            case 21: same("share()", finder::share, this::shareDue); break;
            case 22: case 23: case 24: push(); break;
            case 25: case 26: wrap(); break;
            case 27: case 28: join(); break;
            case 29: take(); break;
            case 30: pop(); break;
            case 31: same("topCost()", finder::topCost, () -> top().cost(reference.costs)); break;
            default: topAnswers(); break;
        }
    }

    private void add() {
        long number = anyNumber();
        boolean good = random.nextBoolean();
        same("add(" + number + ", " + good + ")", () -> finder.add(number, good), () -> addDue(number, good));
    }

    private Object addDue(long number, boolean good) {
        String word = needWord(number);
        List<String> more = new ArrayList<>(reference.words);
        more.add(word);
        boolean tooMany = Reference.pieces(more).size() > 60;
        piecesRefused += tooMany ? 1 : 0;
        if (reference.words.contains(word) || reference.words.size() == 10 || tooMany) {
            throw new IllegalStateException();
        }
        reference.words.add(word);
        reference.good.add(good);
        reference.found = null;
        return reference.words.size() - 1;
    }

    private void mark() {
        int example = anyIndex(reference.words.size());
        boolean good = random.nextBoolean();
        same("mark(" + example + ", " + good + ")", () -> finder.mark(example, good), () -> {
            needIndex(example, reference.words.size());
            reference.found = null;
            return reference.good.set(example, good);
        });
    }

    private void drop() {
        same("drop()", finder::drop, () -> {
            int last = reference.words.size() - 1;
            if (last < 0) {
                throw new IllegalStateException();
            }
            reference.words.remove(last);
            reference.good.remove(last);
            reference.found = null;
            return last;
        });
    }

    private void setCost() {
        int kind = anyIndex(7);
        int cost = random.nextInt(3) == 0 ? 1 : random.nextInt(12) - 1;
        same("setCost(" + kind + ", " + cost + ")", () -> finder.setCost(kind, cost), () -> {
            needIndex(kind, 7);
            if (cost < 1 || cost > 9) {
                throw new IllegalArgumentException();
            }
            int before = reference.costs[kind];
            reference.costs[kind] = cost;
            reference.found = null;
            return before;
        });
    }

    private void example() {
        int example = anyIndex(reference.words.size());
        same("example(" + example + ")", () -> finder.example(example), () -> {
            needIndex(example, reference.words.size());
            return Reference.number(reference.words.get(example));
        });
        same("isGood(" + example + ")", () -> finder.isGood(example), () -> {
            needIndex(example, reference.words.size());
            return reference.good.get(example);
        });
    }

    private void piece() {
        int piece = anyIndex(reference.pieces().size());
        same("piece(" + piece + ")", () -> finder.piece(piece), () -> {
            needIndex(piece, reference.pieces().size());
            return Reference.number(reference.pieces().get(piece));
        });
    }

    private void look() {
        int most = random.nextInt(4) == 0 ? random.nextInt(9) - 1 : random.nextInt(63);
        look(most);
        if (reference.kept == 120 && reference.found == null && random.nextInt(3) == 0) {
            lookAtTheEdge();
        }
        if (reference.found != null && random.nextInt(10) == 0) {
            textAsRegularExpression();
        }
    }

    private void look(int most) {
        same("look(" + most + ")", () -> finder.look(most), () -> {
            if (most < 1 || most > 60) {
                throw new IllegalArgumentException();
            }
            int answer = reference.look(most);
            looksThatFound += answer > 0 ? 1 : 0;
            looksWithNone += answer == -1 ? 1 : 0;
            looksOverfull += answer == -2 ? 1 : 0;
            return answer;
        });
        same("kept()", finder::kept, () -> reference.kept);
    }

    /** The least cost at which one more than 120 would have to be kept, and the one below, at which none has to. */
    private void lookAtTheEdge() {
        int edge = reference.endedAt;
        look(edge);
        if (edge > 1) {
            look(edge - 1);
        }
    }

    /** The text of a pattern is nearly one of Java's, so that Java can say what it matches. */
    private void textAsRegularExpression() {
        StringBuilder text = new StringBuilder();
        for (int index = 0; index < finder.textSize(); index++) {
            char sign = (char) finder.text(index);
            text.append(sign == '0' ? "(?:(?!))" : sign == '1' ? "(?:)" : String.valueOf(sign));
        }
        Pattern pattern = Pattern.compile(text.toString());
        for (String word : Reference.ALL_WORDS) {
            long number = Reference.number(word);
            same("matches(" + number + ")", () -> finder.matches(number), () -> pattern.matcher(word).matches());
        }
    }

    private void nodes() {
        same("nodeCount()", finder::nodeCount, () -> nodesDue().size());
        int node = anyIndex(reference.found == null ? 3 : reference.found.nodes());
        boolean second = random.nextBoolean();
        same("kind(" + node + ")", () -> finder.kind(node), () -> {
            needIndex(node, nodesDue().size());
            return nodesDue().get(node).kind;
        });
        same("part(" + node + ", " + second + ")", () -> finder.part(node, second), () -> partDue(node, second));
    }

    private Object partDue(int node, boolean second) {
        needIndex(node, nodesDue().size());
        Reference.Tree tree = nodesDue().get(node);
        if (tree.kind == 2 && !second) {
            return tree.letter;
        }
        Reference.Tree part = second ? tree.q : tree.p;
        if (part == null) {
            return -1;
        }
        return node + 1 + (second ? tree.p.nodes() : 0);
    }

    private void texts() {
        same("textSize()", finder::textSize, () -> found().text().length());
        int index = anyIndex(reference.found == null ? 3 : reference.found.text().length());
        same("text(" + index + ")", () -> finder.text(index), () -> {
            needIndex(index, found().text().length());
            return (int) reference.found.text().charAt(index);
        });
    }

    private void matches() {
        long number = anyNumber();
        same("matches(" + number + ")", () -> finder.matches(number), () -> found().matches(needWord(number)));
    }

    private void count() {
        int length = anyIndex(7);
        same("count(" + length + ")", () -> finder.count(length), () -> {
            found();
            if (length < 0 || length > 6) {
                throw new IllegalArgumentException();
            }
            int matched = 0;
            for (String word : Reference.ALL_WORDS) {
                matched += word.length() == length && reference.found.matches(word) ? 1 : 0;
            }
            return matched;
        });
    }

    private Object firstDue() {
        found();
        for (String word : Reference.ALL_WORDS) {
            if (reference.found.matches(word)) {
                return Reference.number(word);
            }
        }
        return -1L;
    }

    private Object shareDue() {
        found();
        int matched = 0;
        for (String piece : reference.pieces()) {
            matched += reference.found.matches(piece) ? 1 : 0;
        }
        return (double) matched / reference.pieces().size();
    }

    private void push() {
        int kind = random.nextInt(5) - 1;
        int letter = random.nextInt(4) == 0 ? random.nextInt(260) - 2 : 97 + random.nextInt(3);
        same("push(" + kind + ", " + letter + ")", () -> finder.push(kind, letter), () -> {
            if (kind < 0 || kind > 2 || kind == 2 && (letter < 97 || letter > 99)) {
                throw new IllegalArgumentException();
            }
            return putOnPile(new Reference.Tree(kind, letter, null, null));
        });
    }

    private int putOnPile(Reference.Tree tree) {
        if (reference.pile.size() == 12) {
            throw new IllegalStateException();
        }
        reference.pile.add(tree);
        return reference.pile.size();
    }

    private void wrap() {
        int kind = random.nextInt(5) == 0 ? anyIndex(7) : 3 + random.nextInt(2);
        // now and then many at once, so that the limit of the nodes is reached
        int times = random.nextInt(20) == 0 ? 30 : 1;
        for (int time = 0; time < times; time++) {
            same("wrap(" + kind + ")", () -> finder.wrap(kind), () -> {
                if (kind != 3 && kind != 4) {
                    throw new IllegalArgumentException();
                }
                return replaceTop(1, new Reference.Tree(kind, 0, top(), null));
            });
        }
    }

    private void join() {
        int kind = random.nextInt(5) == 0 ? anyIndex(8) : 5 + random.nextInt(2);
        same("join(" + kind + ")", () -> finder.join(kind), () -> {
            if (kind != 5 && kind != 6) {
                throw new IllegalArgumentException();
            }
            int size = reference.pile.size();
            if (size < 2) {
                throw new IllegalStateException();
            }
            return replaceTop(2, new Reference.Tree(kind, 0, reference.pile.get(size - 2), top()));
        });
    }

    private int replaceTop(int patterns, Reference.Tree tree) {
        if (tree.nodes() > 60) {
            throw new IllegalStateException();
        }
        for (int time = 0; time < patterns; time++) {
            reference.pile.remove(reference.pile.size() - 1);
        }
        reference.pile.add(tree);
        return tree.nodes();
    }

    private void take() {
        same("take()", finder::take, () -> putOnPile(found()));
    }

    private void pop() {
        same("pop()", finder::pop, () -> {
            top();
            reference.pile.remove(reference.pile.size() - 1);
            return reference.pile.size();
        });
    }

    private void topAnswers() {
        long number = anyNumber();
        same("topMatches(" + number + ")", () -> finder.topMatches(number), () -> top().matches(needWord(number)));
        same("topWrong()", finder::topWrong, () -> reference.wrong(top()));
    }

    /** At the end of a run, all that can be asked. */
    private void everything() {
        for (int piece = 0; piece < reference.pieces().size(); piece++) {
            long due = Reference.number(reference.pieces().get(piece));
            int index = piece;
            same("piece(" + piece + ")", () -> finder.piece(index), () -> due);
        }
        while (wrong == 0 && !reference.pile.isEmpty()) {
            for (String word : Reference.ALL_WORDS) {
                long number = Reference.number(word);
                same("topMatches(" + number + ")", () -> finder.topMatches(number), () -> top().matches(word));
            }
            pop();
        }
    }

    // ---- what the reference needs

    private Reference.Tree found() {
        if (reference.found == null) {
            throw new IllegalStateException();
        }
        return reference.found;
    }

    private List<Reference.Tree> nodesDue() {
        List<Reference.Tree> nodes = new ArrayList<>();
        found().list(nodes);
        return nodes;
    }

    private Reference.Tree top() {
        if (reference.pile.isEmpty()) {
            throw new IllegalStateException();
        }
        return reference.pile.get(reference.pile.size() - 1);
    }

    private static String needWord(long number) {
        String word = Reference.word(number);
        if (word == null) {
            throw new IllegalArgumentException();
        }
        return word;
    }

    private static void needIndex(int index, int size) {
        if (index < 0 || index >= size) {
            throw new IndexOutOfBoundsException();
        }
    }

    // ---- arguments

    private int anyIndex(int size) {
        switch (random.nextInt(20)) {
            case 0: return -1;
            case 1: return size;
            case 2: return random.nextInt();
            default: return random.nextInt(size + 1);
        }
    }

    private long anyNumber() {
        int draw = random.nextInt(30);
        if (draw == 0) {
            return random.nextLong();
        }
        long number = 0;
        int length = draw == 1 ? 7 : shortest + random.nextInt(longest - shortest + 1);
        for (int index = 0; index < length; index++) {
            number = number << 8 | 'a' + random.nextInt(letters);
        }
        if (draw == 2) {
            number |= (long) (random.nextInt(5) + 'a' - 1) << 8 * random.nextInt(8);
        }
        if (draw < 6) {
            number = withGap(number);
        }
        return number;
    }

    /** The same letters, with a byte 0 behind some of them. */
    private long withGap(long number) {
        int bits = 8 * random.nextInt(6);
        long low = number & (1L << bits) - 1;
        return number >>> bits << bits + 8 | low;
    }

    // ---- comparing

    private void same(String call, Supplier<Object> asked, Supplier<Object> due) {
        if (wrong != 0) {
            return;
        }
        log.append(call).append('\n');
        Object got = outcome(asked, true);
        Object want = outcome(due, false);
        if (!got.equals(want)) {
            wrong++;
            System.out.println("RandomRunsTest: seed " + seed + ": " + call + " answered " + got + ", due is " + want);
            System.out.println(log);
        }
    }

    private static Object outcome(Supplier<Object> call, boolean ofTheClass) {
        try {
            return call.get();
        } catch (IllegalStateException | IllegalArgumentException | IndexOutOfBoundsException e) {
            boolean isOwn = !ofTheClass || e.getStackTrace()[0].getClassName().startsWith("PatternFinder");
            return isOwn ? e.getClass() : "an exception that the machine threw: " + e;
        }
    }
}
