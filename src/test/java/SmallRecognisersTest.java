import java.util.List;

/** Every recogniser of few states and letters, under every independence, against words run one by one. */
public final class SmallRecognisersTest {
    private static int looked;
    private static int wrong;

    private final SmallWorld world;
    private final int states;
    private final int[][] arrows;
    private int accepting;

    private SmallRecognisersTest(SmallWorld world, int states) {
        this.world = world;
        this.states = states;
        arrows = new int[states][world.letters];
    }

    public static void main(String[] args) {
        // Words that show a recogniser not to be closed need at most n - 1 letters, two more and n - 2.
        everyRecogniser(1, 3, 3);
        everyRecogniser(2, 3, 4);
        everyRecogniser(3, 2, 6);
        System.out.println(looked + " answers looked at, " + wrong + " wrong");
        if (wrong > 0) {
            System.exit(1);
        }
    }

    private static void everyRecogniser(int states, int letters, int longest) {
        int numbers = 1;
        for (int i = 0; i < states * letters; i++) {
            numbers *= states;
        }
        for (int pairs = 0; pairs < 1 << SmallWorld.pairCount(letters); pairs++) {
            SmallRecognisersTest test = new SmallRecognisersTest(new SmallWorld(letters, pairs, longest), states);
            for (int number = 0; number < numbers; number++) {
                for (int set = 0; set < 1 << states; set++) {
                    test.take(number, set);
                    test.look();
                }
            }
        }
    }

    private void take(int number, int set) {
        int rest = number;
        for (int q = 0; q < states; q++) {
            for (int x = 0; x < world.letters; x++) {
                arrows[q][x] = rest % states;
                rest /= states;
            }
        }
        accepting = set;
    }

    private void due(String what, long got, long want) {
        looked++;
        if (got != want) {
            wrong++;
            if (wrong < 20) {
                System.out.println(world + ": " + what + " answered " + got + ", due is " + want);
            }
        }
    }

    private void look() {
        CommutingWords x = world.bench();
        x.setStates(states);
        for (int q = 0; q < states; q++) {
            x.setAccepting(q, (accepting >> q & 1) != 0);
            for (int letter = 0; letter < world.letters; letter++) {
                due("setArrow of a new recogniser", x.setArrow(q, letter, arrows[q][letter]), q);
            }
        }
        due("brokenDiamond", x.brokenDiamond(), broken());
        due("closed", x.closed(), isClosed() ? 1 : 0);
        for (String w : world.upTo(3)) {
            SmallWorld.write(x, 0, w);
            due("acceptedAlike of " + w, x.acceptedAlike(0), world.allAlike(w).stream().filter(this::accepts).count());
        }
    }

    private int end(int state, String w) {
        int at = state;
        for (char c : w.toCharArray()) {
            at = arrows[at][c - 'a'];
        }
        return at;
    }

    private boolean accepts(String w) {
        return (accepting >> end(0, w) & 1) != 0;
    }

    private boolean isClosed() {
        for (String w : world.words) {
            if (accepts(w) != accepts(world.normal(w))) {
                return false;
            }
        }
        return true;
    }

    private int broken() {
        List<String> pairs = List.of("ab", "ac", "bc");
        for (int q = 0; q < states; q++) {
            for (String pair : pairs) {
                char low = pair.charAt(0);
                char high = pair.charAt(1);
                if (high - 'a' < world.letters && world.free(low, high)
                        && end(q, pair) != end(q, "" + high + low)) {
                    return 100 * q + 10 * (low - 'a') + (high - 'a');
                }
            }
        }
        return CommutingWords.NONE;
    }
}
