/**
 * A finder of patterns for words: it is given words that a pattern must match and words that it
 * must not match, and looks for the cheapest pattern that does so.
 */
public final class PatternFinder {
    private static final int NOTHING = 0;
    private static final int EMPTY = 1;
    private static final int LETTER = 2;
    private static final int OPTION = 3;
    private static final int REPEAT = 4;
    private static final int CHAIN = 5;
    private static final int EITHER = 6;
    private static final int KINDS = 7;

    private static final int FIRST_LETTER = 97;
    private static final int LAST_LETTER = 99;
    private static final int MOST_LETTERS = 6;
    private static final int MOST_EXAMPLES = 10;
    private static final int MOST_PIECES = 60;
    private static final int MOST_KEPT = 120;
    private static final int MOST_NODES = 60;
    private static final int MOST_ON_PILE = 12;
    private static final int GREATEST_COST = 9;
    private static final int GREATEST_LOOK = 60;

    private static final int NONE_LEFT = -1;
    private static final int TOO_MANY = -2;

    private final Examples examples = new Examples();
    private final int[] costs = new int[KINDS];
    private final Search search = new Search();
    private final Trial trial = new Trial();

    private boolean hasFound;
    private final Pattern found = new Pattern();
    private final Script script = new Script();
    private int foundPieces;

    private final Pattern[] pile = new Pattern[MOST_ON_PILE];
    private int pileSize;

    public PatternFinder() {
        for (int kind = 0; kind < costs.length; kind++) {
            costs[kind] = 1;
        }
        for (int place = 0; place < pile.length; place++) {
            pile[place] = new Pattern();
        }
    }

    // ---- examples and costs

    public int add(long word, boolean isGood) throws IllegalArgumentException, IllegalStateException {
        if (!Words.isWord(word)) {
            throw new IllegalArgumentException("the number tells no word");
        }
        if (!examples.append(Words.packed(word), isGood)) {
            throw new IllegalStateException("the word can be no further example");
        }
        hasFound = false;
        return examples.size - 1;
    }

    public boolean mark(int example, boolean isGood) throws IndexOutOfBoundsException {
        if (!examples.has(example)) {
            throw new IndexOutOfBoundsException("no such example");
        }
        boolean before = examples.good[example];
        examples.good[example] = isGood;
        hasFound = false;
        return before;
    }

    public int drop() throws IllegalStateException {
        if (examples.size == 0) {
            throw new IllegalStateException("there is no example");
        }
        examples.removeLast();
        hasFound = false;
        return examples.size;
    }

    public int setCost(int kind, int cost) throws IndexOutOfBoundsException, IllegalArgumentException {
        if (kind < 0 || kind >= costs.length) {
            throw new IndexOutOfBoundsException("no such kind");
        }
        if (cost < 1 || cost > GREATEST_COST) {
            throw new IllegalArgumentException("a cost is 1 to 9");
        }
        int before = costs[kind];
        costs[kind] = cost;
        hasFound = false;
        return before;
    }

    public int exampleCount() {
        return examples.size;
    }

    public long example(int example) throws IndexOutOfBoundsException {
        if (!examples.has(example)) {
            throw new IndexOutOfBoundsException("no such example");
        }
        return examples.words[example];
    }

    public boolean isGood(int example) throws IndexOutOfBoundsException {
        if (!examples.has(example)) {
            throw new IndexOutOfBoundsException("no such example");
        }
        return examples.good[example];
    }

    public int pieceCount() {
        return examples.pieces.size;
    }

    public long piece(int piece) throws IndexOutOfBoundsException {
        if (!examples.pieces.has(piece)) {
            throw new IndexOutOfBoundsException("no such piece");
        }
        return examples.pieces.words[piece];
    }

    // ---- looking

    public int look(int most) throws IllegalArgumentException {
        if (most < 1 || most > GREATEST_LOOK) {
            throw new IllegalArgumentException("the greatest cost is 1 to 60");
        }
        hasFound = false;
        int answer = search.run(costs, examples, most);
        if (answer > 0) {
            hasFound = true;
            search.store.unroll(found);
            script.write(found);
            foundPieces = Long.bitCount(search.store.lastTable());
        }
        return answer;
    }

    public int kept() {
        return search.store.size;
    }

    public boolean isFound() {
        return hasFound;
    }

    public int nodeCount() throws IllegalStateException {
        needFound();
        return found.size;
    }

    public int kind(int node) throws IllegalStateException, IndexOutOfBoundsException {
        needFound();
        needNode(node);
        return found.kindOf(node);
    }

    public int part(int node, boolean isSecond) throws IllegalStateException, IndexOutOfBoundsException {
        needFound();
        needNode(node);
        int kind = found.kindOf(node);
        if (isSecond) {
            return kind >= CHAIN ? found.secondOf(node) : -1;
        }
        if (kind == LETTER) {
            return found.letterOf(node);
        }
        return kind >= OPTION ? node + 1 : -1;
    }

    public int textSize() throws IllegalStateException {
        needFound();
        return script.size;
    }

    public int text(int index) throws IllegalStateException, IndexOutOfBoundsException {
        needFound();
        if (!script.has(index)) {
            throw new IndexOutOfBoundsException("no such index in the text");
        }
        return script.signs[index];
    }

    public boolean matches(long word) throws IllegalStateException, IllegalArgumentException {
        needFound();
        needWord(word);
        return trial.fits(found, Words.packed(word));
    }

    public int count(int letters) throws IllegalStateException, IllegalArgumentException {
        needFound();
        if (letters < 0 || letters > MOST_LETTERS) {
            throw new IllegalArgumentException("a length is 0 to 6");
        }
        int matched = 0;
        for (int place = Words.placeOfFirst(letters); place < Words.placeOfFirst(letters + 1); place++) {
            if (trial.fits(found, Words.atPlace(place))) {
                matched++;
            }
        }
        return matched;
    }

    public long first() throws IllegalStateException {
        needFound();
        for (int place = 0; place < Words.placeOfFirst(MOST_LETTERS + 1); place++) {
            long word = Words.atPlace(place);
            if (trial.fits(found, word)) {
                return word;
            }
        }
        return -1;
    }

    public double share() throws IllegalStateException {
        needFound();
        int all = examples.pieces.size;
        return all > 0 ? (double) foundPieces / all : 0;
    }

    private void needFound() {
        if (!hasFound) {
            throw new IllegalStateException("no pattern is found");
        }
    }

    private void needNode(int node) {
        if (!found.has(node)) {
            throw new IndexOutOfBoundsException("no such node");
        }
    }

    private static void needWord(long word) {
        if (!Words.isWord(word)) {
            throw new IllegalArgumentException("the number tells no word");
        }
    }

    // ---- patterns that are built by hand, on a pile of at most 12

    public int push(int kind, int letter) throws IllegalArgumentException, IllegalStateException {
        if (kind < NOTHING || kind > LETTER) {
            throw new IllegalArgumentException("the kind is 0 to 2");
        }
        if (kind == LETTER && !Words.isLetter(letter)) {
            throw new IllegalArgumentException("a letter is 97 to 99");
        }
        if (pileSize >= pile.length) {
            throw new IllegalStateException("the pile is full");
        }
        pile[pileSize].becomeLeaf(kind, letter);
        pileSize++;
        return pileSize;
    }

    public int wrap(int kind) throws IllegalArgumentException, IllegalStateException {
        if (kind != OPTION && kind != REPEAT) {
            throw new IllegalArgumentException("the kind is 3 or 4");
        }
        Pattern top = needTop();
        if (top.size + 1 > MOST_NODES) {
            throw new IllegalStateException("the pattern would have too many nodes");
        }
        top.becomeWrapped(kind);
        return top.size;
    }

    public int join(int kind) throws IllegalArgumentException, IllegalStateException {
        if (kind != CHAIN && kind != EITHER) {
            throw new IllegalArgumentException("the kind is 5 or 6");
        }
        if (pileSize < 2 || pileSize > pile.length) {
            throw new IllegalStateException("the pile has fewer than two patterns");
        }
        Pattern below = pile[pileSize - 2];
        Pattern top = pile[pileSize - 1];
        if (below.size + top.size + 1 > MOST_NODES) {
            throw new IllegalStateException("the pattern would have too many nodes");
        }
        below.becomeJoined(kind, top);
        pileSize--;
        return below.size;
    }

    public int take() throws IllegalStateException {
        needFound();
        if (pileSize >= pile.length) {
            throw new IllegalStateException("the pile is full");
        }
        pile[pileSize].becomeCopy(found);
        pileSize++;
        return pileSize;
    }

    public int pop() throws IllegalStateException {
        if (pileSize == 0) {
            throw new IllegalStateException("the pile is empty");
        }
        pileSize--;
        return pileSize;
    }

    public int topCost() throws IllegalStateException {
        return needTop().totalCost(costs);
    }

    public boolean topMatches(long word) throws IllegalStateException, IllegalArgumentException {
        Pattern top = needTop();
        needWord(word);
        return trial.fits(top, Words.packed(word));
    }

    public int topWrong() throws IllegalStateException {
        Pattern top = needTop();
        int wrong = 0;
        for (int example = 0; example < examples.size; example++) {
            if (trial.fits(top, examples.words[example]) != examples.good[example]) {
                wrong++;
            }
        }
        return wrong;
    }

    private Pattern needTop() {
        if (pileSize < 1 || pileSize > pile.length) {
            throw new IllegalStateException("the pile is empty");
        }
        return pile[pileSize - 1];
    }

    public long digest() {
        long d = 167;
        d = d * 31 + examples.size;
        for (int example = 0; example < examples.size; example++) {
            d = d * 31 + examples.words[example];
            d = d * 31 + (examples.good[example] ? 1 : 0);
        }
        for (int kind = 0; kind < costs.length; kind++) {
            d = d * 31 + costs[kind];
        }
        d = d * 31 + examples.pieces.size;
        d = d * 31 + (hasFound ? 1 : 0);
        if (hasFound) {
            d = d * 31 + found.size;
            for (int node = 0; node < found.size; node++) {
                d = d * 31 + found.kindOf(node);
            }
        }
        d = d * 31 + pileSize;
        for (int place = 0; place < pileSize; place++) {
            d = d * 31 + pile[place].totalCost(costs);
        }
        return d;
    }

    /**
     * Words as numbers. A packed word has no byte 0 behind its first letter, so that packed words,
     * compared as numbers, are in the order of words.
     */
    private static final class Words {
        static boolean isLetter(int sign) {
            return sign >= FIRST_LETTER && sign <= LAST_LETTER;
        }

        static boolean isWord(long number) {
            int letters = 0;
            for (int shift = 0; shift < 64; shift += 8) {
                int sign = (int) (number >>> shift & 255);
                if (sign != 0 && !isLetter(sign)) {
                    return false;
                }
                letters += sign != 0 ? 1 : 0;
            }
            return letters <= MOST_LETTERS;
        }

        static long packed(long number) {
            long word = 0;
            for (int shift = 56; shift >= 0; shift -= 8) {
                long sign = number >>> shift & 255;
                if (sign != 0) {
                    word = word << 8 | sign;
                }
            }
            return word;
        }

        static int lengthOf(long word) {
            int length = 0;
            for (int letters = 0; letters < MOST_LETTERS && word >>> 8 * letters != 0; letters++) {
                length++;
            }
            return length;
        }

        /** The last letters of a word, as many as are asked for. */
        static long ending(long word, int letters) {
            return word & (1L << 8 * letters) - 1;
        }

        /** The place that the first word of this length has in the order of words. */
        static int placeOfFirst(int length) {
            int place = 0;
            for (int letters = 0; letters < length && letters <= MOST_LETTERS; letters++) {
                place = place * 3 + 1;
            }
            return place;
        }

        static long atPlace(int place) {
            // the words that a letter makes longer stand behind each other, three for each word
            long word = 0;
            int rest = place;
            for (int shift = 0; shift < 8 * MOST_LETTERS && rest > 0; shift += 8) {
                long letter = FIRST_LETTER + (rest - 1) % 3;
                word |= letter << shift;
                rest = (rest - 1) / 3;
            }
            return word;
        }
    }

    /** The empty word and all words that stand in some examples, in the order of words. */
    private static final class Pieces {
        final long[] words = new long[MOST_PIECES];
        int size = 1;

        boolean has(int piece) {
            return piece >= 0 && piece < size && piece < words.length;
        }

        void becomeEmptyWord() {
            words[0] = 0;
            size = 1;
        }

        void becomeCopy(Pieces other) {
            size = other.size;
            for (int piece = 0; piece < size; piece++) {
                words[piece] = other.words[piece];
            }
        }

        /** Takes in what stands in a word; tells whether there was room for all of it. */
        boolean takeIn(long word) {
            boolean hasRoom = true;
            for (int letters = Words.lengthOf(word); hasRoom && letters > 0; letters--) {
                long ending = Words.ending(word, letters);
                for (int cut = 0; hasRoom && cut < letters; cut++) {
                    hasRoom = insert(ending >>> 8 * cut);
                }
            }
            return hasRoom;
        }

        private boolean insert(long word) {
            int place = earlierThan(word);
            if (has(place) && words[place] == word) {
                return true;
            }
            if (size >= words.length) {
                return false;
            }
            for (int piece = size; piece > place; piece--) {
                words[piece] = words[piece - 1];
            }
            words[place] = word;
            size++;
            return true;
        }

        /** How many pieces come before this word. */
        private int earlierThan(long word) {
            int earlier = 0;
            for (int step = 32; step > 0; step /= 2) {
                int next = earlier + step;
                if (next <= size && words[next - 1] < word) {
                    earlier = next;
                }
            }
            return earlier;
        }

        int placeOf(long word) {
            int place = earlierThan(word);
            return has(place) && words[place] == word ? place : -1;
        }

        /** The table that holds this word alone, and none if it is no piece. */
        long tableOf(long word) {
            int place = placeOf(word);
            return place >= 0 ? 1L << place : 0;
        }
    }

    /** The examples, and the pieces of all of them. */
    private static final class Examples {
        final long[] words = new long[MOST_EXAMPLES];
        final boolean[] good = new boolean[MOST_EXAMPLES];
        int size;
        Pieces pieces = new Pieces();
        private Pieces sparePieces = new Pieces();

        boolean has(int example) {
            return example >= 0 && example < size && example < words.length;
        }

        /** Takes a word as the last example; changes nothing and tells false if it can't be one. */
        boolean append(long word, boolean isGoodOne) {
            if (size >= words.length || holds(word)) {
                return false;
            }
            sparePieces.becomeCopy(pieces);
            if (!sparePieces.takeIn(word)) {
                return false;
            }
            Pieces before = pieces;
            pieces = sparePieces;
            sparePieces = before;
            words[size] = word;
            good[size] = isGoodOne;
            size++;
            return true;
        }

        private boolean holds(long word) {
            for (int example = 0; example < size; example++) {
                if (words[example] == word) {
                    return true;
                }
            }
            return false;
        }

        void removeLast() {
            size -= size > 0 ? 1 : 0;
            pieces.becomeEmptyWord();
            for (int example = 0; example < size; example++) {
                pieces.takeIn(words[example]);
            }
        }

        /** The table that holds the good examples, or the one that holds the bad ones. */
        long tableOf(boolean goodOnes) {
            long table = 0;
            for (int example = 0; example < size; example++) {
                if (good[example] == goodOnes) {
                    table |= pieces.tableOf(words[example]);
                }
            }
            return table;
        }
    }

    /** A pattern: its nodes, each one ahead of those of its p, and these ahead of those of its q. */
    private static final class Pattern {
        private final int[] kinds = new int[MOST_NODES];
        private final int[] letters = new int[MOST_NODES];
        // how many nodes the part has that begins with this node
        private final int[] sizes = new int[MOST_NODES];
        int size;

        boolean has(int node) {
            return node >= 0 && node < size && node < kinds.length;
        }

        int kindOf(int node) {
            return has(node) ? kinds[node] : NOTHING;
        }

        int letterOf(int node) {
            return has(node) ? letters[node] : 0;
        }

        int secondOf(int node) {
            return has(node + 1) ? node + 1 + sizes[node + 1] : -1;
        }

        int totalCost(int[] costs) {
            int total = 0;
            for (int node = 0; node < size; node++) {
                int kind = kinds[node];
                total += kind >= 0 && kind < costs.length ? costs[kind] : 0;
            }
            return total;
        }

        void becomeNoNodes() {
            size = 0;
        }

        /** Puts a node behind the others; its part has that many nodes, which follow it. */
        void append(int kind, int letter, int nodes) {
            if (size >= 0 && size < kinds.length) {
                kinds[size] = kind;
                letters[size] = kind == LETTER ? letter : 0;
                sizes[size] = nodes;
                size++;
            }
        }

        void becomeLeaf(int kind, int letter) {
            becomeNoNodes();
            append(kind, letter, 1);
        }

        void becomeCopy(Pattern other) {
            becomeNoNodes();
            appendAll(other);
        }

        void becomeWrapped(int kind) {
            if (size < kinds.length) {
                makeRoomAhead();
                kinds[0] = kind;
                sizes[0] = size;
            }
        }

        void becomeJoined(int kind, Pattern second) {
            if (size + second.size < kinds.length) {
                makeRoomAhead();
                appendAll(second);
                kinds[0] = kind;
                sizes[0] = size;
            }
        }

        private void appendAll(Pattern other) {
            for (int node = 0; node < other.size; node++) {
                append(other.kinds[node], other.letters[node], other.sizes[node]);
            }
        }

        private void makeRoomAhead() {
            for (int node = size; node > 0 && node < kinds.length; node--) {
                kinds[node] = kinds[node - 1];
                letters[node] = letters[node - 1];
                sizes[node] = sizes[node - 1];
            }
            letters[0] = 0;
            size++;
        }
    }

    /** The text of a pattern. */
    private static final class Script {
        // a node writes one sign of its own and stands in two brackets at most
        private static final int MOST_SIGNS = 3 * MOST_NODES;
        // each node is an item, and so is each of these signs
        private static final int MOST_ITEMS = 4 * MOST_NODES;

        final int[] signs = new int[MOST_SIGNS];
        int size;
        // what is still to be written, the next at the end: a node, or the negative of a sign
        private final int[] items = new int[MOST_ITEMS];
        private int open;

        boolean has(int index) {
            return index >= 0 && index < size && index < signs.length;
        }

        void write(Pattern pattern) {
            size = 0;
            open = 0;
            leave(0);
            for (int step = 0; step < MOST_ITEMS && open > 0; step++) {
                open--;
                int item = items[open];
                if (item < 0) {
                    put(-item);
                } else {
                    putNode(pattern, item);
                }
            }
        }

        private void putNode(Pattern pattern, int node) {
            switch (pattern.kindOf(node)) {
                case NOTHING:
                    put('0');
                    break;
                case EMPTY:
                    put('1');
                    break;
                case LETTER:
                    put(pattern.letterOf(node));
                    break;
                case OPTION:
                    leave(-'?');
                    leaveFirst(pattern, node);
                    break;
                case REPEAT:
                    leave(-'*');
                    leaveFirst(pattern, node);
                    break;
                case CHAIN:
                    leaveSecond(pattern, node);
                    leaveFirst(pattern, node);
                    break;
                default:
                    leaveSecond(pattern, node);
                    leave(-'|');
                    leaveFirst(pattern, node);
                    break;
            }
        }

        private void leaveFirst(Pattern pattern, int node) {
            int kind = pattern.kindOf(node);
            int partKind = pattern.kindOf(node + 1);
            boolean isWrap = kind == OPTION || kind == REPEAT;
            leavePart(node + 1, isWrap && partKind >= OPTION || kind == CHAIN && partKind == EITHER);
        }

        private void leaveSecond(Pattern pattern, int node) {
            int kind = pattern.kindOf(node);
            int second = pattern.secondOf(node);
            int partKind = pattern.kindOf(second);
            leavePart(second, partKind == EITHER || kind == CHAIN && partKind == CHAIN);
        }

        private void leavePart(int node, boolean inBrackets) {
            if (inBrackets) {
                leave(-')');
            }
            leave(node);
            if (inBrackets) {
                leave(-'(');
            }
        }

        private void leave(int item) {
            if (open >= 0 && open < items.length) {
                items[open] = item;
                open++;
            }
        }

        private void put(int sign) {
            if (size >= 0 && size < signs.length) {
                signs[size] = sign;
                size++;
            }
        }
    }

    /** Tries whether patterns match a word. */
    private static final class Trial {
        private final int[] letters = new int[MOST_LETTERS];
        private int length;
        // bit e of ends[node][s]: the node matches the letters from place s up to the one ahead of place e
        private final int[][] ends = new int[MOST_NODES][MOST_LETTERS + 1];

        boolean fits(Pattern pattern, long word) {
            spell(word);
            for (int node = pattern.size - 1; node >= 0 && node < ends.length; node--) {
                for (int start = length; start >= 0; start--) {
                    ends[node][start] = endsOf(pattern, node, start);
                }
            }
            return (ends[0][0] >>> length & 1) != 0;
        }

        private void spell(long word) {
            length = Words.lengthOf(word);
            for (int place = 0; place < length && place < letters.length; place++) {
                letters[place] = (int) (word >>> 8 * (length - 1 - place) & 255);
            }
        }

        private int endsOf(Pattern pattern, int node, int start) {
            int here = 1 << start;
            switch (pattern.kindOf(node)) {
                case NOTHING:
                    return 0;
                case EMPTY:
                    return here;
                case LETTER:
                    boolean isHere = start < length && start < letters.length
                            && letters[start] == pattern.letterOf(node);
                    return isHere ? here << 1 : 0;
                case OPTION:
                    return here | endsFrom(node + 1, start);
                case REPEAT:
                    // its own ends at later places are known already, as the places are gone through backwards
                    return here | endsBehind(endsFrom(node + 1, start) & ~here, node);
                case CHAIN:
                    return endsBehind(endsFrom(node + 1, start), pattern.secondOf(node));
                default:
                    return endsFrom(node + 1, start) | endsFrom(pattern.secondOf(node), start);
            }
        }

        private int endsFrom(int node, int start) {
            boolean isKnown = node >= 0 && node < ends.length && start >= 0 && start <= MOST_LETTERS;
            return isKnown ? ends[node][start] : 0;
        }

        /** Where the node can end if it starts at one of these places. */
        private int endsBehind(int starts, int node) {
            int all = 0;
            for (int start = 0; start <= length; start++) {
                if ((starts >>> start & 1) != 0) {
                    all |= endsFrom(node, start);
                }
            }
            return all;
        }
    }

    /** All ways to cut a piece in two, which are pieces too. */
    private static final class Cuts {
        private static final int MOST_CUTS = MOST_PIECES * (MOST_LETTERS + 1);

        private final int[] fronts = new int[MOST_CUTS];
        private final int[] backs = new int[MOST_CUTS];
        private final int[] wholes = new int[MOST_CUTS];
        private int size;

        void read(Pieces pieces) {
            size = 0;
            for (int whole = 0; whole < pieces.size; whole++) {
                long word = pieces.words[whole];
                for (int letters = Words.lengthOf(word); letters >= 0; letters--) {
                    int front = pieces.placeOf(word >>> 8 * letters);
                    int back = pieces.placeOf(Words.ending(word, letters));
                    append(front, back, whole);
                }
            }
        }

        private void append(int front, int back, int whole) {
            if (size >= 0 && size < fronts.length && front >= 0 && back >= 0) {
                fronts[size] = front;
                backs[size] = back;
                wholes[size] = whole;
                size++;
            }
        }

        /** Makes row[piece] the table of the pieces that begin with this piece and go on with one of the table. */
        void fillRow(long table, long[] row) {
            for (int piece = 0; piece < row.length; piece++) {
                row[piece] = 0;
            }
            for (int cut = 0; cut < size; cut++) {
                int front = fronts[cut];
                if ((table >>> backs[cut] & 1) != 0 && front >= 0 && front < row.length) {
                    row[front] |= 1L << wholes[cut];
                }
            }
        }
    }

    /** The patterns that a look keeps, in their order, each with its table, which no other one has. */
    private static final class Store {
        private static final int SLOTS = 256;
        private static final long SPREAD = 0x9E3779B97F4A7C15L;

        private final int[] kinds = new int[MOST_KEPT];
        // p, or the letter of a LETTER
        private final int[] firsts = new int[MOST_KEPT];
        private final int[] seconds = new int[MOST_KEPT];
        private final int[] nodes = new int[MOST_KEPT];
        private final int[] totals = new int[MOST_KEPT];
        private final long[] tables = new long[MOST_KEPT];
        private final long[][] rows = new long[MOST_KEPT][MOST_PIECES];
        // the kept patterns, plus 1, each near the slot that its table leads to; 0 where none is
        private final int[] slots = new int[SLOTS];
        private final int[] waiting = new int[MOST_NODES];
        private final Cuts cuts = new Cuts();
        int size;

        boolean has(int kept) {
            return kept >= 0 && kept < size && kept < kinds.length;
        }

        boolean isFull() {
            return size >= kinds.length;
        }

        void becomeEmpty(Pieces pieces) {
            size = 0;
            for (int slot = 0; slot < slots.length; slot++) {
                slots[slot] = 0;
            }
            cuts.read(pieces);
        }

        boolean holds(long table) {
            int slot = slotOf(table);
            return slot >= 0 && slot < slots.length && slots[slot] != 0;
        }

        /** The slot of the pattern that has this table, or the free one where it would stand. */
        private int slotOf(long table) {
            int start = (int) (table * SPREAD >>> 56);
            for (int step = 0; step < SLOTS; step++) {
                int slot = (start + step) % SLOTS;
                int kept = slots[slot] - 1;
                if (kept < 0 || kept >= tables.length || tables[kept] == table) {
                    return slot;
                }
            }
            return -1;
        }

        /** Keeps a pattern; there must be room for it. */
        void append(int kind, int first, int second, int total, long table) {
            int slot = slotOf(table);
            if (isFull() || slot < 0 || slot >= slots.length) {
                return;
            }
            kinds[size] = kind;
            firsts[size] = first;
            seconds[size] = second;
            totals[size] = total;
            tables[size] = table;
            nodes[size] = 1 + (kind >= OPTION ? nodesOf(first) : 0) + (kind >= CHAIN ? nodesOf(second) : 0);
            cuts.fillRow(table, rows[size]);
            size++;
            slots[slot] = size;
        }

        private int nodesOf(int kept) {
            return has(kept) ? nodes[kept] : 0;
        }

        int totalOf(int kept) {
            return has(kept) ? totals[kept] : 0;
        }

        long tableOf(int kept) {
            return has(kept) ? tables[kept] : 0;
        }

        long lastTable() {
            return tableOf(size - 1);
        }

        long repeatTable(int first) {
            // longer pieces have higher numbers, so the table grows only ahead of the piece that is looked at
            long table = 1;
            for (int piece = 0; has(first) && piece < MOST_PIECES; piece++) {
                if ((table >>> piece & 1) != 0) {
                    table |= rows[first][piece];
                }
            }
            return table;
        }

        long chainTable(int first, int second) {
            long table = 0;
            for (int piece = 0; has(first) && has(second) && piece < MOST_PIECES; piece++) {
                if ((tables[first] >>> piece & 1) != 0) {
                    table |= rows[second][piece];
                }
            }
            return table;
        }

        /** Writes the nodes of the pattern that was kept last. */
        void unroll(Pattern pattern) {
            pattern.becomeNoNodes();
            int open = 0;
            int kept = size - 1;
            for (int node = 0; node < MOST_NODES && has(kept); node++) {
                int kind = kinds[kept];
                pattern.append(kind, firsts[kept], nodes[kept]);
                if (kind >= CHAIN && open < waiting.length) {
                    waiting[open] = seconds[kept];
                    open++;
                }
                if (kind >= OPTION) {
                    kept = firsts[kept];
                } else if (open > 0) {
                    open--;
                    kept = waiting[open];
                } else {
                    kept = -1;
                }
            }
        }
    }

    /** A look: goes through the patterns in their order, cost by cost and kind by kind. */
    private static final class Search {
        private static final int GO_ON = 0;
        private static final int FOUND = 1;
        private static final int OVERFULL = 2;

        final Store store = new Store();
        private final int[] costs = new int[KINDS];
        // how many patterns are kept that are cheaper than this cost
        private final int[] cheaper = new int[GREATEST_LOOK + 2];
        private long wanted;
        private long unwanted;

        int run(int[] costsOfKinds, Examples examples, int most) {
            for (int kind = 0; kind < KINDS && kind < costsOfKinds.length; kind++) {
                costs[kind] = costsOfKinds[kind];
            }
            store.becomeEmpty(examples.pieces);
            wanted = examples.tableOf(true);
            unwanted = examples.tableOf(false);
            for (int cost = 1; cost <= most && cost < cheaper.length; cost++) {
                cheaper[cost] = store.size;
                int outcome = goThrough(cost, examples.pieces);
                if (outcome != GO_ON) {
                    return outcome == FOUND ? cost : TOO_MANY;
                }
            }
            return NONE_LEFT;
        }

        private int goThrough(int cost, Pieces pieces) {
            int outcome = offerLeaves(cost, pieces);
            for (int kind = OPTION; outcome == GO_ON && kind < KINDS; kind++) {
                outcome = kind < CHAIN ? offerWraps(kind, cost) : offerJoins(kind, cost);
            }
            return outcome;
        }

        private int offerLeaves(int cost, Pieces pieces) {
            int outcome = GO_ON;
            if (costs[NOTHING] == cost) {
                outcome = offer(NOTHING, 0, 0, cost, 0);
            }
            if (outcome == GO_ON && costs[EMPTY] == cost) {
                outcome = offer(EMPTY, 0, 0, cost, pieces.tableOf(0));
            }
            if (costs[LETTER] == cost) {
                for (int letter = FIRST_LETTER; outcome == GO_ON && letter <= LAST_LETTER; letter++) {
                    outcome = offer(LETTER, letter, 0, cost, pieces.tableOf(letter));
                }
            }
            return outcome;
        }

        private int offerWraps(int kind, int cost) {
            int outcome = GO_ON;
            int rest = cost - costs[kind];
            for (int first = from(rest); outcome == GO_ON && first < from(rest + 1); first++) {
                long table = kind == OPTION ? store.tableOf(first) | 1 : store.repeatTable(first);
                outcome = offer(kind, first, 0, cost, table);
            }
            return outcome;
        }

        private int offerJoins(int kind, int cost) {
            int outcome = GO_ON;
            for (int first = 0; outcome == GO_ON && first < from(cost); first++) {
                int rest = cost - costs[kind] - store.totalOf(first);
                for (int second = from(rest); outcome == GO_ON && second < from(rest + 1); second++) {
                    long table = kind == CHAIN ? store.chainTable(first, second)
                            : store.tableOf(first) | store.tableOf(second);
                    outcome = offer(kind, first, second, cost, table);
                }
            }
            return outcome;
        }

        /** The first of the kept patterns that have this cost or more, for costs up to the present one. */
        private int from(int cost) {
            return cost > 0 && cost < cheaper.length ? cheaper[cost] : 0;
        }

        private int offer(int kind, int first, int second, int cost, long table) {
            if (store.holds(table)) {
                return GO_ON;
            }
            if (store.isFull()) {
                return OVERFULL;
            }
            store.append(kind, first, second, cost, table);
            boolean isRight = (table & wanted) == wanted && (table & unwanted) == 0;
            return isRight ? FOUND : GO_ON;
        }
    }
}
