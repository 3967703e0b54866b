import java.util.ArrayDeque;
import java.util.ArrayList;
import java.util.Arrays;
import java.util.HashMap;
import java.util.HashSet;
import java.util.List;
import java.util.Map;
import java.util.Set;
import java.util.TreeSet;

/**
 * What the document says, in its plainest and slowest form: likeness is searched for by exchanges,
 * so words must stay small. Words are Strings of the letters a to f.
 */
final class PlainModel {
    static final int BAD_INDEX = -1;
    static final int BAD_VALUE = -2;
    static final int NOT_POSSIBLE = -3;
    static final int FULL = -4;
    static final int NONE = -5;
    /** Classes of alike words beyond this size are not looked at. */
    static final int CLASS_LIMIT = 3000;

    static final class State {
        int letters = 4;
        boolean[][] free = new boolean[6][6];
        String[] words = {"", "", "", "", "", ""};
        int states = 1;
        int[][] arrows = new int[6][6];
        boolean[] accepting = new boolean[6];

        State() {
            firstArrows();
        }

        void firstArrows() {
            for (int q = 0; q < 6; q++) {
                Arrays.fill(arrows[q], q);
            }
            Arrays.fill(accepting, false);
        }

        State copy() {
            State s = new State();
            s.letters = letters;
            s.words = words.clone();
            s.states = states;
            s.accepting = accepting.clone();
            for (int i = 0; i < 6; i++) {
                s.free[i] = free[i].clone();
                s.arrows[i] = arrows[i].clone();
            }
            return s;
        }
    }

    State s = new State();
    private final State[] slots = new State[2];
    private StringBuilder text = new StringBuilder();
    private final Map<String, TreeSet<String>> known = new HashMap<>();

    // ---- likeness by search

    private boolean free(char x, char y) {
        return s.free[x - 'a'][y - 'a'];
    }

    /** All words alike to w, or null if there are too many. */
    TreeSet<String> allAlike(String w) {
        if (known.containsKey(w)) {
            return known.get(w);
        }
        TreeSet<String> found = new TreeSet<>();
        ArrayDeque<String> open = new ArrayDeque<>();
        found.add(w);
        open.add(w);
        while (!open.isEmpty()) {
            String v = open.poll();
            for (int i = 0; i + 1 < v.length(); i++) {
                if (free(v.charAt(i), v.charAt(i + 1))) {
                    String u = v.substring(0, i) + v.charAt(i + 1) + v.charAt(i) + v.substring(i + 2);
                    if (found.add(u)) {
                        open.add(u);
                    }
                }
            }
            if (found.size() > CLASS_LIMIT) {
                known.put(w, null);
                return null;
            }
        }
        known.put(w, found);
        return found;
    }

    boolean small(String w) {
        return allAlike(w) != null;
    }

    private String first(String w) {
        return allAlike(w).first();
    }

    private boolean same(String u, String w) {
        return u.length() == w.length() && allAlike(w).contains(u);
    }

    /** What follows u in w, or null. */
    private String rest(String u, String w) {
        for (String v : allAlike(w)) {
            if (v.startsWith(u)) {
                return v.substring(u.length());
            }
        }
        return null;
    }

    private static boolean bad(int... words) {
        for (int w : words) {
            if (w < 0 || w > 5) {
                return true;
            }
        }
        return false;
    }

    private boolean badLetter(int x) {
        return x < 0 || x >= s.letters;
    }

    // ---- letters

    int setLetters(int letters) {
        if (letters < 2 || letters > 6) {
            return BAD_VALUE;
        }
        int previous = s.letters;
        s = new State();
        s.letters = letters;
        known.clear();
        return previous;
    }

    int setIndependent(int x, int y, boolean on) {
        if (badLetter(x) || badLetter(y) || x == y) {
            return BAD_INDEX;
        }
        int previous = s.free[x][y] ? 1 : 0;
        s.free[x][y] = on;
        s.free[y][x] = on;
        known.clear();
        return previous;
    }

    int independent(int x) {
        if (badLetter(x)) {
            return BAD_INDEX;
        }
        int set = 0;
        for (int y = 0; y < 6; y++) {
            set += s.free[x][y] ? 1 << y : 0;
        }
        return set;
    }

    long different(int length) {
        if (length < 0 || length > 16) {
            return BAD_VALUE;
        }
        List<String> words = new ArrayList<>();
        words.add("");
        for (int i = 0; i < length; i++) {
            List<String> longer = new ArrayList<>();
            for (String w : words) {
                for (int x = 0; x < s.letters; x++) {
                    longer.add(w + (char) ('a' + x));
                }
            }
            words = longer;
        }
        Set<String> kinds = new HashSet<>();
        Map<String, String> seen = new HashMap<>();
        for (String w : words) {
            if (!seen.containsKey(w)) {
                for (String v : allAlike(w)) {
                    seen.put(v, w);
                }
                kinds.add(w);
            }
        }
        return kinds.size();
    }

    // ---- words

    int add(int word, int x) {
        if (bad(word) || badLetter(x)) {
            return BAD_INDEX;
        }
        if (s.words[word].length() == 16) {
            return FULL;
        }
        s.words[word] += (char) ('a' + x);
        return s.words[word].length();
    }

    int clear(int word) {
        if (bad(word)) {
            return BAD_INDEX;
        }
        int previous = s.words[word].length();
        s.words[word] = "";
        return previous;
    }

    int length(int word) {
        return bad(word) ? BAD_INDEX : s.words[word].length();
    }

    private static int at(String w, int index) {
        return index < 0 || index >= w.length() ? NONE : w.charAt(index) - 'a';
    }

    int letter(int word, int index) {
        return bad(word) ? BAD_INDEX : at(s.words[word], index);
    }

    int normal(int word, int index) {
        return bad(word) ? BAD_INDEX : at(first(s.words[word]), index);
    }

    private List<Integer> layerSets(String w) {
        int[] layerOf = new int[w.length()];
        List<Integer> sets = new ArrayList<>();
        for (int i = 0; i < w.length(); i++) {
            int layer = 0;
            for (int j = 0; j < i; j++) {
                if (!free(w.charAt(j), w.charAt(i)) && layerOf[j] >= layer) {
                    layer = layerOf[j] + 1;
                }
            }
            layerOf[i] = layer;
            while (sets.size() <= layer) {
                sets.add(0);
            }
            sets.set(layer, sets.get(layer) | 1 << w.charAt(i) - 'a');
        }
        return sets;
    }

    int layers(int word) {
        return bad(word) ? BAD_INDEX : layerSets(s.words[word]).size();
    }

    int layer(int word, int layer) {
        if (bad(word)) {
            return BAD_INDEX;
        }
        List<Integer> sets = layerSets(s.words[word]);
        return layer < 0 || layer >= sets.size() ? NONE : sets.get(layer);
    }

    int projected(int word, int x, int y, int index) {
        if (bad(word) || badLetter(x) || badLetter(y)) {
            return BAD_INDEX;
        }
        String left = s.words[word].replaceAll("[^" + (char) ('a' + x) + (char) ('a' + y) + "]", "");
        return at(left, index);
    }

    long alikeWords(int word) {
        return bad(word) ? BAD_INDEX : allAlike(s.words[word]).size();
    }

    int alike(int u, int w) {
        return bad(u, w) ? BAD_INDEX : same(s.words[u], s.words[w]) ? 1 : 0;
    }

    int commute(int u, int w) {
        if (bad(u, w)) {
            return BAD_INDEX;
        }
        return same(s.words[u] + s.words[w], s.words[w] + s.words[u]) ? 1 : 0;
    }

    private boolean connectedSet(int set) {
        for (int part = 1; part < set; part++) {
            if ((part & ~set) == 0 && part != set && divides(part, set & ~part)) {
                return false;
            }
        }
        return true;
    }

    private boolean divides(int part, int others) {
        for (int x = 0; x < 6; x++) {
            for (int y = 0; y < 6; y++) {
                if ((part >> x & 1) != 0 && (others >> y & 1) != 0 && !s.free[x][y]) {
                    return false;
                }
            }
        }
        return true;
    }

    int connected(int word) {
        if (bad(word)) {
            return BAD_INDEX;
        }
        int set = 0;
        for (char c : s.words[word].toCharArray()) {
            set |= 1 << c - 'a';
        }
        return connectedSet(set) ? 1 : 0;
    }

    int isPrefix(int u, int w) {
        return bad(u, w) ? BAD_INDEX : rest(s.words[u], s.words[w]) != null ? 1 : 0;
    }

    int isFactor(int u, int w) {
        if (bad(u, w)) {
            return BAD_INDEX;
        }
        for (String v : allAlike(s.words[w])) {
            if (v.contains(s.words[u])) {
                return 1;
            }
        }
        return 0;
    }

    private String rootOf(String w) {
        for (int e = w.length(); e > 0; e--) {
            for (String v : allAlike(w)) {
                String part = v.substring(0, w.length() / e);
                if (part.repeat(e).equals(v)) {
                    return part;
                }
            }
        }
        throw new IllegalStateException();
    }

    int exponent(int word) {
        if (bad(word)) {
            return BAD_INDEX;
        }
        String w = s.words[word];
        return w.isEmpty() ? NOT_POSSIBLE : w.length() / rootOf(w).length();
    }

    // ---- results

    private int become(int result, String w) {
        s.words[result] = first(w);
        return w.length();
    }

    int product(int u, int w, int result) {
        if (bad(u, w, result)) {
            return BAD_INDEX;
        }
        String both = s.words[u] + s.words[w];
        return both.length() > 16 ? FULL : become(result, both);
    }

    int quotient(int u, int w, int result) {
        if (bad(u, w, result)) {
            return BAD_INDEX;
        }
        String rest = rest(s.words[u], s.words[w]);
        return rest == null ? NOT_POSSIBLE : become(result, rest);
    }

    private Set<String> allPrefixes(String w) {
        Set<String> found = new HashSet<>();
        for (String v : allAlike(w)) {
            for (int i = 0; i <= v.length(); i++) {
                found.add(v.substring(0, i));
            }
        }
        return found;
    }

    private String greatestCommonPrefix(String u, String w) {
        Set<String> common = allPrefixes(u);
        common.retainAll(allPrefixes(w));
        String greatest = "";
        for (String v : common) {
            if (v.length() > greatest.length()) {
                greatest = v;
            }
        }
        for (String v : common) {
            if (rest(v, greatest) == null) {
                throw new IllegalStateException("no greatest common prefix");
            }
        }
        return greatest;
    }

    int commonPrefix(int u, int w, int result) {
        if (bad(u, w, result)) {
            return BAD_INDEX;
        }
        return become(result, greatestCommonPrefix(s.words[u], s.words[w]));
    }

    /** The shortest product of u and a word that has w as a prefix; it's enough to look at ends of w. */
    private String leastCommonMultiple(String u, String w) {
        String least = null;
        Set<String> ends = new HashSet<>();
        for (String v : allAlike(w)) {
            for (int i = 0; i <= v.length(); i++) {
                ends.add(v.substring(i));
            }
        }
        for (String end : ends) {
            if ((least == null || u.length() + end.length() < least.length()) && hasPrefix(w, u + end)) {
                least = u + end;
            }
        }
        return least;
    }

    /** Without a search of all alike words, for multiples can be long: letters of v are taken one by one. */
    private boolean hasPrefix(String v, String w) {
        String left = w;
        for (char c : v.toCharArray()) {
            int i = left.indexOf(c);
            if (i < 0) {
                return false;
            }
            for (int j = 0; j < i; j++) {
                if (!free(left.charAt(j), c)) {
                    return false;
                }
            }
            left = left.substring(0, i) + left.substring(i + 1);
        }
        return true;
    }

    String multiple(int u, int w) {
        return leastCommonMultiple(s.words[u], s.words[w]);
    }

    int commonMultiple(int u, int w, int result) {
        if (bad(u, w, result)) {
            return BAD_INDEX;
        }
        String least = multiple(u, w);
        if (least == null) {
            return NOT_POSSIBLE;
        }
        return least.length() > 16 ? FULL : become(result, least);
    }

    int root(int word, int result) {
        if (bad(word, result)) {
            return BAD_INDEX;
        }
        return s.words[word].isEmpty() ? NOT_POSSIBLE : become(result, rootOf(s.words[word]));
    }

    int reverse(int word, int result) {
        if (bad(word, result)) {
            return BAD_INDEX;
        }
        return become(result, new StringBuilder(s.words[word]).reverse().toString());
    }

    // ---- expressions, read by recursive descent into trees

    record Node(char kind, List<Node> parts, char letter) { }

    private static final class Fault extends Exception {
        private static final long serialVersionUID = 1;
        final int position;

        Fault(int position) {
            this.position = position;
        }
    }

    private final class Reader {
        int i;

        char sign() {
            return i < text.length() ? text.charAt(i) : (char) 200;
        }

        Node all() throws Fault {
            Node n = sum();
            if (i < text.length()) {
                throw new Fault(i);
            }
            return n;
        }

        Node sum() throws Fault {
            List<Node> parts = new ArrayList<>();
            parts.add(product());
            while (sign() == '+') {
                i++;
                parts.add(product());
            }
            return new Node('+', parts, ' ');
        }

        boolean atomBegins() {
            char c = sign();
            return c == '(' || c == '1' || c >= 'a' && c < 'a' + s.letters;
        }

        Node product() throws Fault {
            List<Node> parts = new ArrayList<>();
            parts.add(item());
            while (atomBegins()) {
                parts.add(item());
            }
            return new Node('.', parts, ' ');
        }

        Node item() throws Fault {
            Node n = atom();
            while (sign() == '*') {
                i++;
                n = new Node('*', List.of(n), ' ');
            }
            return n;
        }

        Node atom() throws Fault {
            if (!atomBegins()) {
                throw new Fault(i);
            }
            char c = sign();
            i++;
            if (c != '(') {
                return new Node(c == '1' ? '1' : 'x', List.of(), c);
            }
            Node n = sum();
            if (sign() != ')') {
                throw new Fault(i);
            }
            i++;
            return n;
        }
    }

    int append(int letter) {
        if (letter < 0 || letter > 127) {
            return BAD_VALUE;
        }
        if (text.length() == 80) {
            return FULL;
        }
        text.append((char) letter);
        return text.length();
    }

    int clearText() {
        int previous = text.length();
        text = new StringBuilder();
        return previous;
    }

    int faultPosition() {
        try {
            new Reader().all();
            return NONE;
        } catch (Fault f) {
            return f.position;
        }
    }

    private Node tree() {
        try {
            return new Reader().all();
        } catch (Fault f) {
            return null;
        }
    }

    /** Where words of n that start in w at one of the places can end. */
    private static Set<Integer> ends(Node n, String w, Set<Integer> starts) {
        Set<Integer> found = new TreeSet<>();
        switch (n.kind()) {
            case '1':
                return starts;
            case 'x':
                for (int i : starts) {
                    if (i < w.length() && w.charAt(i) == n.letter()) {
                        found.add(i + 1);
                    }
                }
                return found;
            case '+':
                for (Node part : n.parts()) {
                    found.addAll(ends(part, w, starts));
                }
                return found;
            case '.':
                found = starts;
                for (Node part : n.parts()) {
                    found = ends(part, w, found);
                }
                return found;
            default:
                found.addAll(starts);
                while (found.addAll(ends(n.parts().get(0), w, found))) {
                    continue;
                }
                return found;
        }
    }

    int matches(int word) {
        if (bad(word)) {
            return BAD_INDEX;
        }
        Node n = tree();
        if (n == null) {
            return NOT_POSSIBLE;
        }
        for (String v : allAlike(s.words[word])) {
            if (ends(n, v, Set.of(0)).contains(v.length())) {
                return 1;
            }
        }
        return 0;
    }

    private boolean starsConnected;

    private Set<Integer> letterSets(Node n) {
        Set<Integer> found = new TreeSet<>();
        switch (n.kind()) {
            case '1':
                found.add(0);
                return found;
            case 'x':
                found.add(1 << n.letter() - 'a');
                return found;
            case '+':
                for (Node part : n.parts()) {
                    found.addAll(letterSets(part));
                }
                return found;
            case '.':
                found.add(0);
                for (Node part : n.parts()) {
                    found = unions(found, letterSets(part));
                }
                return found;
            default:
                Set<Integer> once = letterSets(n.parts().get(0));
                for (int set : once) {
                    starsConnected &= connectedSet(set);
                }
                found.add(0);
                while (found.addAll(unions(found, once))) {
                    continue;
                }
                return found;
        }
    }

    private static Set<Integer> unions(Set<Integer> some, Set<Integer> others) {
        Set<Integer> found = new TreeSet<>();
        for (int a : some) {
            for (int b : others) {
                found.add(a | b);
            }
        }
        return found;
    }

    int starConnected() {
        Node n = tree();
        if (n == null) {
            return NOT_POSSIBLE;
        }
        starsConnected = true;
        letterSets(n);
        return starsConnected ? 1 : 0;
    }

    private static int least(Node n) {
        int all = 0;
        int min = Integer.MAX_VALUE;
        for (Node part : n.parts()) {
            all += least(part);
            min = Math.min(min, least(part));
        }
        return switch (n.kind()) {
            case 'x' -> 1;
            case '+' -> min;
            case '.' -> all;
            default -> 0;
        };
    }

    int shortest() {
        Node n = tree();
        return n == null ? NOT_POSSIBLE : least(n);
    }

    // ---- recognisers

    int setStates(int states) {
        if (states < 1 || states > 6) {
            return BAD_VALUE;
        }
        int previous = s.states;
        s.states = states;
        s.firstArrows();
        return previous;
    }

    private boolean badState(int q) {
        return q < 0 || q >= s.states;
    }

    int setArrow(int q, int x, int to) {
        if (badState(q) || badLetter(x) || badState(to)) {
            return BAD_INDEX;
        }
        int previous = s.arrows[q][x];
        s.arrows[q][x] = to;
        return previous;
    }

    int setAccepting(int q, boolean on) {
        if (badState(q)) {
            return BAD_INDEX;
        }
        int previous = s.accepting[q] ? 1 : 0;
        s.accepting[q] = on;
        return previous;
    }

    private int end(int q, String w) {
        int at = q;
        for (char c : w.toCharArray()) {
            at = s.arrows[at][c - 'a'];
        }
        return at;
    }

    long acceptedAlike(int word) {
        if (bad(word)) {
            return BAD_INDEX;
        }
        long found = 0;
        for (String v : allAlike(s.words[word])) {
            found += s.accepting[end(0, v)] ? 1 : 0;
        }
        return found;
    }

    int brokenDiamond() {
        for (int q = 0; q < s.states; q++) {
            for (int x = 0; x < s.letters; x++) {
                for (int y = x + 1; y < s.letters; y++) {
                    String xy = "" + (char) ('a' + x) + (char) ('a' + y);
                    String yx = "" + (char) ('a' + y) + (char) ('a' + x);
                    if (s.free[x][y] && end(q, xy) != end(q, yx)) {
                        return 100 * q + 10 * x + y;
                    }
                }
            }
        }
        return NONE;
    }

    /**
     * Runs two words side by side: pairs of states to which words u and v lead that differ by at
     * most one exchange so far; only a closed recogniser never parts them.
     */
    int closed() {
        ArrayDeque<int[]> open = new ArrayDeque<>();
        Set<Integer> seen = new HashSet<>();
        open.add(new int[] {0, 0, 0});
        while (!open.isEmpty()) {
            int[] at = open.poll();
            if (!seen.add(at[0] + 10 * at[1] + 100 * at[2])) {
                continue;
            }
            if (s.accepting[at[0]] != s.accepting[at[1]]) {
                return 0;
            }
            for (int x = 0; x < s.letters; x++) {
                open.add(new int[] {s.arrows[at[0]][x], s.arrows[at[1]][x], at[2]});
                for (int y = 0; y < s.letters && at[2] == 0; y++) {
                    if (s.free[x][y]) {
                        open.add(new int[] {
                            s.arrows[s.arrows[at[0]][x]][y], s.arrows[s.arrows[at[1]][y]][x], 1});
                    }
                }
            }
        }
        return 1;
    }

    // ---- slots, checksum

    int save(int slot) {
        if (slot < 0 || slot > 1) {
            return BAD_INDEX;
        }
        slots[slot] = s.copy();
        return s.letters;
    }

    int restore(int slot) {
        if (slot < 0 || slot > 1) {
            return BAD_INDEX;
        }
        if (slots[slot] == null) {
            return NOT_POSSIBLE;
        }
        s = slots[slot].copy();
        known.clear();
        return s.letters;
    }

    long checksum() {
        List<Long> values = new ArrayList<>();
        values.add((long) s.letters);
        for (int x = 0; x < s.letters; x++) {
            values.add((long) independent(x));
        }
        for (int w = 0; w < 6; w++) {
            values.add((long) length(w));
            for (int i = 0; i < length(w); i++) {
                values.add((long) normal(w, i));
            }
            for (int i = 0; i < layers(w); i++) {
                values.add((long) layer(w, i));
            }
            values.add(alikeWords(w));
            values.add((long) connected(w));
            values.add(acceptedAlike(w));
        }
        values.add((long) brokenDiamond());
        values.add((long) closed());
        long h = 67;
        for (long value : values) {
            h = 31 * h + value;
        }
        return h;
    }
}
