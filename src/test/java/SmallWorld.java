import java.util.ArrayList;
import java.util.BitSet;
import java.util.HashMap;
import java.util.List;
import java.util.Map;

/**
 * All words of few letters up to some length, with tables of what the document says of them: likeness is
 * found by joining words that differ by one exchange, prefixes by cutting all alike words.
 */
final class SmallWorld {
    final int letters;
    final int pairs;
    final int longest;
    final List<String> words = new ArrayList<>();
    private final Map<String, Integer> numbers = new HashMap<>();
    private final int[] joined;
    private final BitSet[] prefixes;

    /** Bit i of pairs is for the pair i of letters in the order ab, ac, bc, .. as pairNumber counts. */
    SmallWorld(int letters, int pairs, int longest) {
        this.letters = letters;
        this.pairs = pairs;
        this.longest = longest;
        listWords();
        joined = new int[words.size()];
        joinAlike();
        prefixes = new BitSet[words.size()];
        cutAlike();
    }

    static int pairCount(int letters) {
        return letters * (letters - 1) / 2;
    }

    static int pairNumber(int low, int high) {
        return high * (high - 1) / 2 + low;
    }

    boolean free(int x, int y) {
        return x != y && (pairs >> pairNumber(Math.min(x, y), Math.max(x, y)) & 1) != 0;
    }

    boolean free(char x, char y) {
        return free(x - 'a', y - 'a');
    }

    /** A new object with these letters and this independence, made by at most 4 calls if there are 3 letters. */
    CommutingWords bench() {
        CommutingWords x = new CommutingWords();
        x.setLetters(letters);
        for (int low = 0; low < letters; low++) {
            for (int high = low + 1; high < letters; high++) {
                x.setIndependent(high, low, free(low, high));
            }
        }
        return x;
    }

    private void listWords() {
        words.add("");
        for (int i = 0; i < words.size() && words.get(i).length() < longest; i++) {
            for (int x = 0; x < letters; x++) {
                words.add(words.get(i) + (char) ('a' + x));
            }
        }
        for (int i = 0; i < words.size(); i++) {
            numbers.put(words.get(i), i);
        }
    }

    List<String> upTo(int length) {
        return words.stream().filter(w -> w.length() <= length).toList();
    }

    private void joinAlike() {
        for (int i = 0; i < joined.length; i++) {
            joined[i] = i;
        }
        for (String w : words) {
            for (int i = 0; i + 1 < w.length(); i++) {
                if (free(w.charAt(i), w.charAt(i + 1))) {
                    String other = w.substring(0, i) + w.charAt(i + 1) + w.charAt(i) + w.substring(i + 2);
                    int one = find(numbers.get(w));
                    int two = find(numbers.get(other));
                    joined[Math.max(one, two)] = Math.min(one, two);
                }
            }
        }
    }

    private int find(int number) {
        int at = number;
        while (joined[at] != at) {
            at = joined[at];
        }
        return at;
    }

    private void cutAlike() {
        for (int i = 0; i < prefixes.length; i++) {
            prefixes[i] = new BitSet();
        }
        for (String w : words) {
            for (int i = 0; i <= w.length(); i++) {
                prefixes[kind(w)].set(kind(w.substring(0, i)));
            }
        }
    }

    /** The same number for alike words; it is that of the lexicographically first one. */
    int kind(String w) {
        return find(numbers.get(w));
    }

    boolean alike(String u, String w) {
        return kind(u) == kind(w);
    }

    String normal(String w) {
        return words.get(kind(w));
    }

    List<String> allAlike(String w) {
        return words.stream().filter(v -> v.length() == w.length() && alike(v, w)).toList();
    }

    boolean isPrefix(String u, String w) {
        return prefixes[kind(w)].get(kind(u));
    }

    boolean isFactor(String u, String w) {
        return allAlike(w).stream().anyMatch(v -> v.contains(u));
    }

    /** The normal form of what follows u in w, or null. */
    String quotient(String u, String w) {
        String found = null;
        for (String x : words) {
            if (u.length() + x.length() == w.length() && alike(u + x, w)) {
                if (found != null && !alike(found, x)) {
                    throw new IllegalStateException("two quotients of " + u + " and " + w);
                }
                found = normal(x);
            }
        }
        return found;
    }

    String greatestCommonPrefix(String u, String w) {
        BitSet common = (BitSet) prefixes[kind(u)].clone();
        common.and(prefixes[kind(w)]);
        for (int i = common.nextSetBit(0); i >= 0; i = common.nextSetBit(i + 1)) {
            if (has(prefixes[i], common)) {
                return words.get(i);
            }
        }
        throw new IllegalStateException("no greatest common prefix of " + u + " and " + w);
    }

    private static boolean has(BitSet all, BitSet some) {
        BitSet left = (BitSet) some.clone();
        left.andNot(all);
        return left.isEmpty();
    }

    /** The normal form of the least common multiple, or null; a least one is no longer than the product. */
    String leastCommonMultiple(String u, String w) {
        BitSet common = new BitSet();
        for (int i = 0; i < prefixes.length; i++) {
            if (find(i) == i && prefixes[i].get(kind(u)) && prefixes[i].get(kind(w))) {
                common.set(i);
            }
        }
        for (int i = common.nextSetBit(0); i >= 0; i = common.nextSetBit(i + 1)) {
            if (isPrefixOfAll(i, common)) {
                return words.get(i);
            }
        }
        if (!common.isEmpty()) {
            throw new IllegalStateException("no least common multiple of " + u + " and " + w);
        }
        return null;
    }

    private boolean isPrefixOfAll(int kind, BitSet kinds) {
        return kinds.stream().allMatch(i -> prefixes[i].get(kind));
    }

    /** A root of w: each word of the right length is tried. */
    String root(String w) {
        for (String part : words) {
            if (!part.isEmpty() && w.length() % part.length() == 0
                    && alike(part.repeat(w.length() / part.length()), w)) {
                return normal(part);
            }
        }
        throw new IllegalStateException("no root of " + w);
    }

    boolean isConnected(String w) {
        int set = letterSet(w);
        for (int part = 1; part < set; part++) {
            if ((part & ~set) == 0 && allFree(part, set & ~part)) {
                return false;
            }
        }
        return true;
    }

    private boolean allFree(int some, int others) {
        for (int x = 0; x < letters; x++) {
            for (int y = 0; y < letters; y++) {
                if ((some >> x & 1) != 0 && (others >> y & 1) != 0 && !free(x, y)) {
                    return false;
                }
            }
        }
        return true;
    }

    static int letterSet(String w) {
        int set = 0;
        for (char c : w.toCharArray()) {
            set |= 1 << c - 'a';
        }
        return set;
    }

    /** The layers by another way than the document's: the longest chain of dependent letters that ends in a place. */
    List<Integer> layers(String w) {
        List<Integer> sets = new ArrayList<>();
        for (int end = 0; end < w.length(); end++) {
            int layer = chain(w, end) - 1;
            while (sets.size() <= layer) {
                sets.add(0);
            }
            sets.set(layer, sets.get(layer) | 1 << w.charAt(end) - 'a');
        }
        return sets;
    }

    private int chain(String w, int end) {
        int most = 0;
        for (int i = 0; i < end; i++) {
            if (!free(w.charAt(i), w.charAt(end))) {
                most = Math.max(most, chain(w, i));
            }
        }
        return most + 1;
    }

    long countDifferent(int length) {
        return words.stream().filter(w -> w.length() == length && normal(w).equals(w)).count();
    }

    static void write(CommutingWords x, int word, String w) {
        x.clear(word);
        for (char c : w.toCharArray()) {
            x.add(word, c - 'a');
        }
    }

    /** The word as it is, read letter by letter. */
    static String read(CommutingWords x, int word) {
        StringBuilder w = new StringBuilder();
        int letter = x.letter(word, 0);
        while (letter >= 0 && w.length() <= 16) {
            w.append((char) ('a' + letter));
            letter = x.letter(word, w.length());
        }
        return w.toString();
    }

    @Override
    public String toString() {
        StringBuilder all = new StringBuilder(letters + " letters");
        for (int low = 0; low < letters; low++) {
            for (int high = low + 1; high < letters; high++) {
                all.append(free(low, high) ? " " + (char) ('a' + low) + (char) ('a' + high) : "");
            }
        }
        return all.toString();
    }
}
