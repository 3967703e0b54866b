import java.util.List;

/** Every word and every pair of words of few letters, under every independence, against tables. */
public final class SmallWordsTest {
    private static int looked;
    private static int wrong;

    private static void due(SmallWorld world, String what, Object got, Object want) {
        looked++;
        if (!got.equals(want)) {
            wrong++;
            if (wrong < 20) {
                System.out.println(world + ": " + what + " answered " + got + ", due is " + want);
            }
        }
    }

    private static int number(boolean yes) {
        return yes ? 1 : 0;
    }

    public static void main(String[] args) {
        allWorlds(2, 9, 4);
        allWorlds(3, 6, 3);
        allWorlds(4, 4, 2);
        System.out.println(looked + " answers looked at, " + wrong + " wrong");
        if (wrong > 0) {
            System.exit(1);
        }
    }

    /** Single words up to a length, and pairs whose products the world's words have. */
    private static void allWorlds(int letters, int longest, int half) {
        for (int pairs = 0; pairs < 1 << SmallWorld.pairCount(letters); pairs++) {
            SmallWorld world = new SmallWorld(letters, pairs, Math.max(longest, 2 * half));
            for (String w : world.upTo(longest - 1)) {
                oneWord(world, w);
            }
            differentCounts(world);
            for (String u : world.upTo(half)) {
                for (String w : world.upTo(half)) {
                    if (u.length() + w.length() <= world.longest) {
                        onePair(world, u, w);
                    }
                }
            }
        }
    }

    private static void differentCounts(SmallWorld world) {
        CommutingWords x = world.bench();
        for (int length = 0; length <= world.longest; length++) {
            due(world, "different " + length, x.different(length), world.countDifferent(length));
        }
    }

    private static void oneWord(SmallWorld world, String w) {
        CommutingWords x = world.bench();
        SmallWorld.write(x, 0, w);
        due(world, "letters of " + w, SmallWorld.read(x, 0), w);
        due(world, "normal form of " + w, normalForm(x), world.normal(w));
        List<Integer> layers = world.layers(w);
        due(world, "layers of " + w, x.layers(0), layers.size());
        for (int i = 0; i < layers.size(); i++) {
            due(world, "layer " + i + " of " + w, x.layer(0, i), layers.get(i));
        }
        due(world, "no further layer of " + w, x.layer(0, layers.size()), CommutingWords.NONE);
        due(world, "alikeWords of " + w, x.alikeWords(0), (long) world.allAlike(w).size());
        due(world, "connected " + w, x.connected(0), number(world.isConnected(w)));
        String mirror = new StringBuilder(w).reverse().toString();
        due(world, "reverse of " + w, x.reverse(0, 1), w.length());
        due(world, "reverse of " + w, SmallWorld.read(x, 1), world.normal(mirror));
        root(world, x, w);
        projections(world, x, w);
        due(world, "word 0 in the end", SmallWorld.read(x, 0), w);
    }

    private static String normalForm(CommutingWords x) {
        StringBuilder w = new StringBuilder();
        for (int i = 0; i < 17 && x.normal(0, i) != CommutingWords.NONE; i++) {
            w.append((char) ('a' + x.normal(0, i)));
        }
        return w.toString();
    }

    private static void root(SmallWorld world, CommutingWords x, String w) {
        if (w.isEmpty()) {
            due(world, "exponent of nothing", x.exponent(0), CommutingWords.NOT_POSSIBLE);
            due(world, "root of nothing", x.root(0, 2), CommutingWords.NOT_POSSIBLE);
            return;
        }
        String root = world.root(w);
        due(world, "exponent of " + w, x.exponent(0), w.length() / root.length());
        due(world, "root of " + w, x.root(0, 2), root.length());
        due(world, "root of " + w, SmallWorld.read(x, 2), root);
    }

    private static void projections(SmallWorld world, CommutingWords x, String w) {
        for (int a = 0; a < world.letters; a++) {
            for (int b = a; b < world.letters; b++) {
                String left = w.replaceAll("[^" + (char) ('a' + a) + (char) ('a' + b) + "]", "");
                StringBuilder got = new StringBuilder();
                for (int i = 0; i < 17 && x.projected(0, a, b, i) != CommutingWords.NONE; i++) {
                    got.append((char) ('a' + x.projected(0, b, a, i)));
                }
                due(world, "projection of " + w, got.toString(), left);
            }
        }
    }

    private static void onePair(SmallWorld world, String u, String w) {
        CommutingWords x = world.bench();
        SmallWorld.write(x, 0, u);
        SmallWorld.write(x, 1, w);
        String pair = u + " and " + w;
        due(world, "alike " + pair, x.alike(0, 1), number(u.length() == w.length() && world.alike(u, w)));
        due(world, "commute " + pair, x.commute(0, 1), number(world.alike(u + w, w + u)));
        due(world, "isPrefix " + pair, x.isPrefix(0, 1), number(world.isPrefix(u, w)));
        due(world, "isFactor " + pair, x.isFactor(0, 1), number(world.isFactor(u, w)));
        result(world, x, "product of " + pair, x.product(0, 1, 2), 2, world.normal(u + w));
        result(world, x, "quotient of " + pair, x.quotient(0, 1, 3), 3, world.quotient(u, w));
        result(world, x, "commonPrefix of " + pair, x.commonPrefix(0, 1, 4), 4, world.greatestCommonPrefix(u, w));
        result(world, x, "commonMultiple of " + pair, x.commonMultiple(0, 1, 5), 5, world.leastCommonMultiple(u, w));
        due(world, "words 0 and 1 in the end", SmallWorld.read(x, 0) + " and " + SmallWorld.read(x, 1), pair);
        result(world, x, "quotient of " + pair + " over the first", x.quotient(0, 1, 0), 0, world.quotient(u, w));
    }

    /** A result is the due word, or is not possible and changes nothing: the word is empty then. */
    private static void result(SmallWorld world, CommutingWords x, String what, int got, int word, String want) {
        if (want != null) {
            due(world, what, got, want.length());
            due(world, what, SmallWorld.read(x, word), want);
        } else {
            due(world, what, got, CommutingWords.NOT_POSSIBLE);
            due(world, what, x.length(word) == 0 || word == 0, true);
        }
    }
}
