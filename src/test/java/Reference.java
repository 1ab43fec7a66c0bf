import java.util.ArrayList;
import java.util.Comparator;
import java.util.HashMap;
import java.util.HashSet;
import java.util.List;
import java.util.Map;
import java.util.Set;
import java.util.TreeSet;

/**
 * The document once more, written slowly and with other means (texts, sets, trees, sorting), so
 * that the class can be compared with it in random runs.
 */
final class Reference {
    static final Comparator<String> WORDS =
            Comparator.comparingInt(String::length).thenComparing(Comparator.naturalOrder());
    static final List<String> ALL_WORDS = allWords();

    /** A pattern as a tree. */
    static final class Tree {
        final int kind;
        final int letter;
        final Tree p;
        final Tree q;
        private final Map<String, Boolean> known = new HashMap<>();

        Tree(int kind, int letter, Tree p, Tree q) {
            this.kind = kind;
            this.letter = letter;
            this.p = p;
            this.q = q;
        }

        boolean matches(String word) {
            Boolean answer = known.get(word);
            if (answer == null) {
                answer = tries(word);
                known.put(word, answer);
            }
            return answer;
        }

        private boolean tries(String word) {
            switch (kind) {
                case 0: return false;
                case 1: return word.isEmpty();
                case 2: return word.equals(String.valueOf((char) letter));
                case 3: return word.isEmpty() || p.matches(word);
                case 4: return word.isEmpty() || anyCut(word, 1, p, this);
                case 5: return anyCut(word, 0, p, q);
                default: return p.matches(word) || q.matches(word);
            }
        }

        private static boolean anyCut(String word, int least, Tree front, Tree back) {
            for (int cut = least; cut <= word.length(); cut++) {
                if (front.matches(word.substring(0, cut)) && back.matches(word.substring(cut))) {
                    return true;
                }
            }
            return false;
        }

        int cost(int[] costs) {
            return costs[kind] + (p == null ? 0 : p.cost(costs)) + (q == null ? 0 : q.cost(costs));
        }

        int nodes() {
            return 1 + (p == null ? 0 : p.nodes()) + (q == null ? 0 : q.nodes());
        }

        void list(List<Tree> nodes) {
            nodes.add(this);
            if (p != null) {
                p.list(nodes);
            }
            if (q != null) {
                q.list(nodes);
            }
        }

        String text() {
            switch (kind) {
                case 0: return "0";
                case 1: return "1";
                case 2: return String.valueOf((char) letter);
                case 3: return bracket(p, p.kind >= 3) + "?";
                case 4: return bracket(p, p.kind >= 3) + "*";
                case 5: return bracket(p, p.kind == 6) + bracket(q, q.kind == 6 || q.kind == 5);
                default: return p.text() + "|" + bracket(q, q.kind == 6);
            }
        }

        private static String bracket(Tree part, boolean needed) {
            return needed ? "(" + part.text() + ")" : part.text();
        }
    }

    /** The order of patterns, by the document's words. */
    static int compare(Tree a, Tree b, int[] costs) {
        int byCost = Integer.compare(a.cost(costs), b.cost(costs));
        if (byCost != 0) {
            return byCost;
        }
        if (a.kind != b.kind) {
            return Integer.compare(a.kind, b.kind);
        }
        if (a.kind == 2) {
            return Integer.compare(a.letter, b.letter);
        }
        int byP = a.p == null ? 0 : compare(a.p, b.p, costs);
        return byP != 0 || a.q == null ? byP : compare(a.q, b.q, costs);
    }

    final List<String> words = new ArrayList<>();
    final List<Boolean> good = new ArrayList<>();
    final int[] costs = {1, 1, 1, 1, 1, 1, 1};
    final List<Tree> pile = new ArrayList<>();
    Tree found;
    int kept;
    // the cost at which the latest look ended
    int endedAt;

    private static List<String> allWords() {
        List<String> all = new ArrayList<>();
        all.add("");
        for (int next = 0; all.get(next).length() < 6; next++) {
            for (String letter : List.of("a", "b", "c")) {
                all.add(all.get(next) + letter);
            }
        }
        all.sort(WORDS);
        return all;
    }

    /** The word that a number tells; null if it tells none. */
    static String word(long number) {
        StringBuilder word = new StringBuilder();
        for (int index = 7; index >= 0; index--) {
            int sign = (int) (number >> 8 * index) & 0xff;
            if (sign == 0) {
                continue;
            }
            if (sign < 'a' || sign > 'c') {
                return null;
            }
            word.append((char) sign);
        }
        return word.length() > 6 ? null : word.toString();
    }

    static long number(String word) {
        long number = 0;
        for (char letter : word.toCharArray()) {
            number = number * 256 + letter;
        }
        return number;
    }

    static TreeSet<String> pieces(List<String> words) {
        TreeSet<String> pieces = new TreeSet<>(WORDS);
        pieces.add("");
        for (String word : words) {
            for (int from = 0; from <= word.length(); from++) {
                for (int to = from; to <= word.length(); to++) {
                    pieces.add(word.substring(from, to));
                }
            }
        }
        return pieces;
    }

    List<String> pieces() {
        return new ArrayList<>(pieces(words));
    }

    private Set<String> table(Tree tree, List<String> pieces) {
        Set<String> table = new HashSet<>();
        for (String piece : pieces) {
            if (tree.matches(piece)) {
                table.add(piece);
            }
        }
        return table;
    }

    private boolean isRight(Tree tree) {
        return wrong(tree) == 0;
    }

    int wrong(Tree tree) {
        int wrong = 0;
        for (int example = 0; example < words.size(); example++) {
            if (tree.matches(words.get(example)) != good.get(example)) {
                wrong++;
            }
        }
        return wrong;
    }

    int look(int most) {
        found = null;
        List<String> pieces = pieces();
        List<Tree> keptTrees = new ArrayList<>();
        Set<Set<String>> tables = new HashSet<>();
        kept = 0;
        for (int cost = 1; cost <= most; cost++) {
            endedAt = cost;
            for (Tree tree : candidates(keptTrees, cost)) {
                Set<String> table = table(tree, pieces);
                if (tables.contains(table)) {
                    continue;
                }
                if (kept == 120) {
                    return -2;
                }
                keptTrees.add(tree);
                tables.add(table);
                kept++;
                if (isRight(tree)) {
                    found = tree;
                    return cost;
                }
            }
        }
        return -1;
    }

    private List<Tree> candidates(List<Tree> keptTrees, int cost) {
        List<Tree> all = new ArrayList<>();
        for (int leaf = 0; leaf < 5; leaf++) {
            Tree tree = new Tree(Math.min(leaf, 2), leaf < 2 ? 0 : 'a' + leaf - 2, null, null);
            addIfCost(all, tree, cost);
        }
        int[] totals = new int[keptTrees.size()];
        for (int p = 0; p < totals.length; p++) {
            totals[p] = keptTrees.get(p).cost(costs);
        }
        for (int kind = 6; kind >= 3; kind--) {
            for (int p = 0; p < totals.length; p++) {
                if (kind < 5 && totals[p] + costs[kind] == cost) {
                    all.add(new Tree(kind, 0, keptTrees.get(p), null));
                }
                for (int q = 0; kind >= 5 && q < totals.length; q++) {
                    if (totals[p] + totals[q] + costs[kind] == cost) {
                        all.add(new Tree(kind, 0, keptTrees.get(p), keptTrees.get(q)));
                    }
                }
            }
        }
        all.sort((a, b) -> compare(a, b, costs));
        return all;
    }

    private void addIfCost(List<Tree> all, Tree tree, int cost) {
        if (tree.cost(costs) == cost) {
            all.add(tree);
        }
    }

    long digest() {
        List<Long> numbers = new ArrayList<>();
        numbers.add((long) words.size());
        for (int example = 0; example < words.size(); example++) {
            numbers.add(number(words.get(example)));
            numbers.add(good.get(example) ? 1L : 0L);
        }
        for (int cost : costs) {
            numbers.add((long) cost);
        }
        numbers.add((long) pieces().size());
        numbers.add(found == null ? 0L : 1L);
        if (found != null) {
            numbers.add((long) found.nodes());
            List<Tree> nodes = new ArrayList<>();
            found.list(nodes);
            for (Tree node : nodes) {
                numbers.add((long) node.kind);
            }
        }
        numbers.add((long) pile.size());
        for (Tree tree : pile) {
            numbers.add((long) tree.cost(costs));
        }
        long d = 167;
        for (long number : numbers) {
            d = d * 31 + number;
        }
        return d;
    }
}
