import java.util.ArrayList;
import java.util.HashMap;
import java.util.List;
import java.util.Map;

/**
 * Every text of few signs. Its fault is looked for by the ends that make a text an expression; what an
 * expression without a fault stands for is built up with its text, as a set of short words.
 */
public final class SmallTextsTest {
    private static final String SIGNS = "abc1()+*";
    private static final int LONGEST_TEXT = 5;
    private static final int LONGEST_EXPRESSION = 6;
    // The words of two letters up to this length are bits of one long.
    private static final int LONGEST_WORD = 5;
    private static final int TEXTS_OF_AN_OBJECT = 30;

    /** A text with its short words, and whether it is star-connected. */
    private record Expression(String text, long words, boolean connected) { }

    private static int looked;
    private static int wrong;

    private static void due(String what, long got, long want) {
        looked++;
        if (got != want) {
            wrong++;
            if (wrong < 20) {
                System.out.println(what + " answered " + got + ", due is " + want);
            }
        }
    }

    public static void main(String[] args) {
        faults();
        for (int pairs = 0; pairs < 2; pairs++) {
            expressions(new SmallWorld(2, pairs, LONGEST_WORD));
        }
        System.out.println(looked + " answers looked at, " + wrong + " wrong");
        if (wrong > 0) {
            System.exit(1);
        }
    }

    private static void write(CommutingWords x, String text) {
        x.clearText();
        for (char c : text.toCharArray()) {
            x.append(c);
        }
    }

    // ---- faults

    private static void faults() {
        List<String> texts = new ArrayList<>();
        texts.add("");
        for (int i = 0; i < texts.size() && texts.get(i).length() < LONGEST_TEXT; i++) {
            for (char c : SIGNS.toCharArray()) {
                texts.add(texts.get(i) + c);
            }
        }
        CommutingWords x = new CommutingWords();
        for (int i = 0; i < texts.size(); i++) {
            if (i % TEXTS_OF_AN_OBJECT == 0) {
                x = new CommutingWords();
                x.setLetters(2);
            }
            String text = texts.get(i);
            write(x, text);
            int fault = faultOf(text);
            due("faultPosition of " + text, x.faultPosition(), fault);
            refusals(x, text, fault != CommutingWords.NONE);
        }
    }

    private static void refusals(CommutingWords x, String text, boolean faulty) {
        int[] answers = {x.matches(0), x.starConnected(), x.shortest()};
        for (int answer : answers) {
            due("refusal of " + text, answer == CommutingWords.NOT_POSSIBLE ? 1 : 0, faulty ? 1 : 0);
        }
    }

    private static int faultOf(String text) {
        if (isExpression(text)) {
            return CommutingWords.NONE;
        }
        int position = 0;
        while (position < text.length() && canGoOn(text.substring(0, position + 1))) {
            position++;
        }
        return position;
    }

    /** Whether some end makes the text an expression: one atom if need be, and brackets that close. */
    private static boolean canGoOn(String text) {
        String brackets = "";
        for (int i = 0; i <= text.length(); i++) {
            if (isExpression(text + brackets) || isExpression(text + "a" + brackets)) {
                return true;
            }
            brackets += ")";
        }
        return false;
    }

    /** Parts that are expressions are replaced by a sign E until nothing changes. */
    private static boolean isExpression(String text) {
        String now = text.replaceAll("[ab1]", "E");
        String before = "";
        while (!now.equals(before)) {
            before = now;
            now = now.replace("E*", "E").replace("EE", "E").replace("E+E", "E").replace("(E)", "E");
        }
        return now.equals("E");
    }

    // ---- expressions

    private static void expressions(SmallWorld world) {
        List<Expression> all = new Builder(world).all();
        List<String> words = world.upTo(4);
        for (int first = 0; first < words.size(); first += 6) {
            List<String> six = words.subList(first, Math.min(words.size(), first + 6));
            CommutingWords x = world.bench();
            for (int i = 0; i < all.size(); i++) {
                if (i % TEXTS_OF_AN_OBJECT == 0) {
                    x = benchWith(world, six);
                }
                oneExpression(world, x, all.get(i), six);
            }
        }
    }

    private static CommutingWords benchWith(SmallWorld world, List<String> words) {
        CommutingWords x = world.bench();
        for (int w = 0; w < words.size(); w++) {
            SmallWorld.write(x, w, words.get(w));
        }
        return x;
    }

    private static void oneExpression(SmallWorld world, CommutingWords x, Expression e, List<String> words) {
        write(x, e.text());
        due(world + ": starConnected of " + e.text(), x.starConnected(), e.connected() ? 1 : 0);
        due(world + ": shortest of " + e.text(), x.shortest(), shortestOf(world, e));
        for (int w = 0; w < words.size(); w++) {
            boolean matches = false;
            for (String alike : world.allAlike(words.get(w))) {
                matches |= (e.words() >> world.words.indexOf(alike) & 1) != 0;
            }
            due(world + ": " + words.get(w) + " matches " + e.text(), x.matches(w), matches ? 1 : 0);
        }
    }

    /** A text without short words has nothing but letters. */
    private static int shortestOf(SmallWorld world, Expression e) {
        int first = Long.numberOfTrailingZeros(e.words());
        return first < world.words.size() ? world.words.get(first).length() : e.text().length();
    }

    /** Makes all expressions of two letters, by the grammar, the shorter ones first. */
    private static final class Builder {
        private final SmallWorld world;
        private final List<List<Expression>> sums = new ArrayList<>();
        private final List<List<Expression>> products = new ArrayList<>();
        private final List<List<Expression>> items = new ArrayList<>();
        private final Map<String, Integer> numbers = new HashMap<>();

        Builder(SmallWorld world) {
            this.world = world;
            for (int i = 0; i < world.words.size(); i++) {
                numbers.put(world.words.get(i), i);
            }
        }

        List<Expression> all() {
            List<Expression> found = new ArrayList<>();
            for (int length = 0; length <= LONGEST_EXPRESSION; length++) {
                items.add(itemsOf(length));
                products.add(new ArrayList<>(items.get(length)));
                for (int part = 1; part < length; part++) {
                    joinProducts(length, part);
                }
                sums.add(new ArrayList<>(products.get(length)));
                for (int part = 1; part < length - 1; part++) {
                    joinSums(length, part);
                }
                found.addAll(sums.get(length));
            }
            return found;
        }

        private List<Expression> itemsOf(int length) {
            List<Expression> found = new ArrayList<>();
            if (length == 1) {
                found.add(new Expression("1", bit(""), true));
                found.add(new Expression("a", bit("a"), true));
                found.add(new Expression("b", bit("b"), true));
            }
            if (length > 2) {
                for (Expression e : sums.get(length - 2)) {
                    found.add(new Expression("(" + e.text() + ")", e.words(), e.connected()));
                }
            }
            if (length > 1) {
                for (Expression e : items.get(length - 1)) {
                    found.add(new Expression(e.text() + "*", star(e.words()), e.connected() && allConnected(e.words())));
                }
            }
            return found;
        }

        private void joinProducts(int length, int part) {
            for (Expression one : products.get(part)) {
                for (Expression two : items.get(length - part)) {
                    products.get(length).add(new Expression(one.text() + two.text(),
                        product(one.words(), two.words()), one.connected() && two.connected()));
                }
            }
        }

        private void joinSums(int length, int part) {
            for (Expression one : sums.get(part)) {
                for (Expression two : products.get(length - part - 1)) {
                    sums.get(length).add(new Expression(one.text() + "+" + two.text(),
                        one.words() | two.words(), one.connected() && two.connected()));
                }
            }
        }

        private long bit(String word) {
            return 1L << numbers.get(word);
        }

        private long product(long some, long others) {
            long found = 0;
            for (int i = 0; i < world.words.size(); i++) {
                for (int j = 0; j < world.words.size() && (some >> i & 1) != 0; j++) {
                    String both = world.words.get(i) + world.words.get(j);
                    if ((others >> j & 1) != 0 && both.length() <= LONGEST_WORD) {
                        found |= bit(both);
                    }
                }
            }
            return found;
        }

        private long star(long some) {
            long before = 0;
            long found = bit("");
            while (found != before) {
                before = found;
                found |= product(found, some);
            }
            return found;
        }

        private boolean allConnected(long some) {
            for (int i = 0; i < world.words.size(); i++) {
                if ((some >> i & 1) != 0 && !world.isConnected(world.words.get(i))) {
                    return false;
                }
            }
            return true;
        }
    }
}
