import java.util.Random;

/** Random words of up to 16 letters of up to 6, with ever so many alike ones, against the model by places. */
public final class LargeWordsTest {
    private static final int ROUNDS = 300;
    private static final int TEXT_ROOM = 80;

    private static Random random;
    private static int looked;
    private static int wrong;
    private static int matching;

    private final int letters = 4 + random.nextInt(3);
    private final boolean[][] free = new boolean[6][6];
    private final CommutingWords x = new CommutingWords();
    private final String[] words = new String[6];
    private final String round;

    private LargeWordsTest(int round) {
        this.round = "round " + round;
        x.setLetters(letters);
        int density = 1 + random.nextInt(10);
        for (int a = 0; a < letters; a++) {
            for (int b = 0; b < a; b++) {
                free[a][b] = random.nextInt(10) < density;
                free[b][a] = free[a][b];
                x.setIndependent(a, b, free[a][b]);
            }
        }
    }

    public static void main(String[] args) {
        for (int round = 0; round < ROUNDS && wrong < 20; round++) {
            random = new Random(round);
            LargeWordsTest test = new LargeWordsTest(round);
            test.writeWords();
            test.counts();
            test.pairs();
            test.expressions();
            test.results();
        }
        System.out.println(looked + " answers looked at, " + wrong + " wrong; " + matching + " words matched");
        if (wrong > 0 || matching < ROUNDS / 4) {
            System.exit(1);
        }
    }

    private void due(String what, long got, long want) {
        looked++;
        if (got != want) {
            wrong++;
            System.out.println(round + ": " + what + " answered " + got + ", due is " + want);
        }
    }

    private static int number(boolean yes) {
        return yes ? 1 : 0;
    }

    private String randomWord(int length) {
        StringBuilder w = new StringBuilder();
        for (int i = 0; i < length; i++) {
            w.append((char) ('a' + random.nextInt(letters)));
        }
        return w.toString();
    }

    /** An alike word, by a good many exchanges. */
    private String mixed(String w) {
        char[] signs = w.toCharArray();
        for (int i = 0; i < 200 && signs.length > 1; i++) {
            int at = random.nextInt(signs.length - 1);
            if (free[signs[at] - 'a'][signs[at + 1] - 'a']) {
                char sign = signs[at];
                signs[at] = signs[at + 1];
                signs[at + 1] = sign;
            }
        }
        return new String(signs);
    }

    /** A long word, an alike one, a factor of both, a prefix, a power, and what has a common prefix with the first. */
    private void writeWords() {
        words[0] = randomWord(13 + random.nextInt(4));
        words[1] = mixed(words[0]);
        String other = mixed(words[0]);
        int from = random.nextInt(8);
        words[2] = other.substring(from, from + 1 + random.nextInt(other.length() - from));
        words[3] = mixed(mixed(words[0]).substring(0, random.nextInt(words[0].length() + 1)));
        String part = randomWord(1 + random.nextInt(5));
        words[4] = mixed(part.repeat(1 + random.nextInt(16 / part.length())));
        words[5] = mixed(words[0].substring(0, random.nextInt(10)) + randomWord(random.nextInt(7)));
        for (int w = 0; w < 6; w++) {
            SmallWorld.write(x, w, words[w]);
        }
    }

    private void counts() {
        int states = 1 + random.nextInt(6);
        int[][] arrows = new int[states][letters];
        x.setStates(states);
        for (int q = 0; q < states; q++) {
            for (int a = 0; a < letters; a++) {
                arrows[q][a] = random.nextInt(states);
                x.setArrow(q, a, arrows[q][a]);
            }
        }
        long[] ends = new PlaceModel(words[0], free).ends(arrows);
        long all = 0;
        for (int q = 0; q < states; q++) {
            all += ends[q];
            x.setAccepting(q, true);
            due("acceptedAlike at " + q + " of " + words[0], x.acceptedAlike(0), ends[q]);
            x.setAccepting(q, false);
        }
        due("alikeWords of " + words[0], x.alikeWords(0), all);
    }

    private void pairs() {
        for (int u = 0; u < 6; u++) {
            for (int w = 0; w < 6; w++) {
                String pair = words[u] + " and " + words[w];
                due("alike " + pair, x.alike(u, w), number(PlaceModel.alike(words[u], words[w], free)));
                due("isPrefix " + pair, x.isPrefix(u, w), number(PlaceModel.isPrefix(words[u], words[w], free)));
                boolean commute = PlaceModel.alike(words[u] + words[w], words[w] + words[u], free);
                due("commute " + pair, x.commute(u, w), number(commute));
            }
            boolean factor = new PlaceModel(words[0], free).hasFactor(words[u]);
            due("isFactor " + words[u] + " of " + words[0], x.isFactor(u, 0), number(factor));
        }
    }

    // ---- expressions

    private void expressions() {
        PlaceModel model = new PlaceModel(words[0], free);
        PlaceModel.Part part = grown(mixed(words[0]));
        String text = part.text();
        if (text.length() > TEXT_ROOM) {
            return;
        }
        for (char c : text.toCharArray()) {
            x.append(c);
        }
        boolean matches = model.matches(part);
        matching += number(matches);
        due(words[0] + " matches " + text, x.matches(0), number(matches));
        due(words[1] + " matches " + text, x.matches(1), number(matches));
        for (int w = 2; w < 6; w++) {
            boolean one = new PlaceModel(words[w], free).matches(part);
            due(words[w] + " matches " + text, x.matches(w), number(one));
        }
    }

    /** An expression of which w is a word, but for some letters that are changed now and then. */
    private PlaceModel.Part grown(String w) {
        if (w.isEmpty()) {
            return random.nextBoolean() ? PlaceModel.Part.empty() : PlaceModel.Part.star(grown("a"));
        }
        int kind = random.nextInt(12);
        if (kind == 0) {
            return PlaceModel.Part.star(grown(w));
        }
        if (kind == 1) {
            return PlaceModel.Part.sum(grown(w), grown(randomWord(random.nextInt(3))));
        }
        if (w.length() == 1) {
            return PlaceModel.Part.letter(random.nextInt(40) == 0 ? 'a' : w.charAt(0));
        }
        int cut = 1 + random.nextInt(w.length() - 1);
        return PlaceModel.Part.product(grown(w.substring(0, cut)), grown(w.substring(cut)));
    }

    // ---- results

    private void results() {
        int rest = x.quotient(3, 0, 2);
        due("quotient of " + words[3] + " and " + words[0], rest, words[0].length() - words[3].length());
        String quotient = normal(2);
        due("quotient " + quotient, number(PlaceModel.alike(words[3] + quotient, words[0], free)), 1);
        greatestCommonPrefix();
        power();
        String mirror = new StringBuilder(words[0]).reverse().toString();
        due("reverse of " + words[0], x.reverse(0, 0), mirror.length());
        due("reverse of " + words[0], number(PlaceModel.alike(normal(0), mirror, free)), 1);
    }

    /** What is left of both words after it has no common first letter; the multiple has the product of both. */
    private void greatestCommonPrefix() {
        int length = x.commonPrefix(0, 5, 2);
        String common = normal(2);
        due("length of " + common, length, common.length());
        due("prefix " + common, number(PlaceModel.isPrefix(common, words[0], free)), 1);
        due("prefix " + common, number(PlaceModel.isPrefix(common, words[5], free)), 1);
        for (char c = 'a'; c < 'a' + letters; c++) {
            boolean longer = PlaceModel.isPrefix(common + c, words[0], free) && PlaceModel.isPrefix(common + c, words[5], free);
            due("a longer common prefix than " + common, number(longer), 0);
        }
        String left = without(words[0], common);
        String right = without(words[5], common);
        String multiple = common + left + right;
        int answer = x.commonMultiple(0, 5, 3);
        if (!PlaceModel.isPrefix(words[5], multiple, free) || !PlaceModel.alike(left + right, right + left, free)) {
            due("commonMultiple of " + words[0] + " and " + words[5], answer, CommutingWords.NOT_POSSIBLE);
        } else if (multiple.length() > 16) {
            due("commonMultiple of " + words[0] + " and " + words[5], answer, CommutingWords.FULL);
        } else {
            due("commonMultiple of " + words[0] + " and " + words[5], answer, multiple.length());
            due("commonMultiple " + multiple, number(PlaceModel.alike(normal(3), multiple, free)), 1);
        }
    }

    private static String without(String w, String prefix) {
        String rest = w;
        for (char c : prefix.toCharArray()) {
            int i = rest.indexOf(c);
            rest = rest.substring(0, i) + rest.substring(i + 1);
        }
        return rest;
    }

    /** The root taken exponent times is the word, and no root's root is shorter. */
    private void power() {
        int exponent = x.exponent(4);
        due("root of " + words[4], x.root(4, 5), words[4].length() / exponent);
        String root = normal(5);
        due("power of " + root, number(PlaceModel.alike(root.repeat(exponent), words[4], free)), 1);
        due("exponent of the root " + root, x.exponent(5), 1);
    }

    private String normal(int word) {
        String w = SmallWorld.read(x, word);
        due("normal form " + w, number(PlaceModel.isNormal(w, free)), 1);
        return w;
    }
}
