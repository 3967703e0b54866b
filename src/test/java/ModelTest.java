import java.util.Random;

/** Long runs of calls, ordinary and wrong ones, each answer compared with that of the plain model. */
public final class ModelTest {
    private static final int RUNS = 400;
    // An object is used for at most 512 calls, and one step can make some hundred of them.
    private static final int MOST_CALLS = 512;
    private static final int LAST_STEP = 400;
    private static final String[] EXPRESSIONS = {
        "(ab)*c", "(a+b)*", "(a+b)**", "a*b*c*", "((a+1)(b+1)(c+1))*", "(ab+ba)*(1+c)", "1", "1*", "(1+a)*b",
        "(a*b*)*", "((ab)*c)*", "(abc)*(a+b)", "(a(b+c)*)*", "ab*c*d", "(ad+bc)*", "((a))*(b)", "a+b+c+1",
        "(ef)*(a+b+c+d)*", "aabbab", "(aabb)*", "()", "a+", "+a", "*", "a)", "(a", "a(*", "a**b", "g", "A",
        "(a+b)(a+b)(a+b)(a+b)", "(1+a*)*(1+b)*", "((((a*)*b)*c)*d)*"
    };

    private static Random random;
    private static int wrong;
    private static int compared;
    private static int calls;

    private static int pick(int least, int most) {
        return least + random.nextInt(most - least + 1);
    }

    /** Mostly from 0 to most, sometimes outside. */
    private static int about(int most) {
        int kind = random.nextInt(40);
        if (kind == 0) {
            return -1;
        }
        if (kind == 1) {
            return most + 1;
        }
        if (kind == 2) {
            int[] far = {Integer.MIN_VALUE, Integer.MAX_VALUE, -5, 64, 1 << 16};
            return far[random.nextInt(far.length)];
        }
        return pick(0, most);
    }

    public static void main(String[] args) {
        for (int run = 0; run < RUNS && wrong < 20; run++) {
            random = new Random(run);
            one(run);
        }
        System.out.println(compared + " answers compared, " + wrong + " wrong");
        if (wrong > 0) {
            System.exit(1);
        }
    }

    private static void due(int run, String name, long got, long want) {
        compared++;
        calls++;
        if (got != want) {
            wrong++;
            System.out.println("run " + run + " call " + calls + ": " + name + " answered " + got + ", due is " + want);
        }
    }

    private static void one(int run) {
        CommutingWords x = new CommutingWords();
        PlainModel m = new PlainModel();
        int longest = pick(3, 16);
        calls = 0;
        while (calls < LAST_STEP) {
            keepSmall(x, m);
            int before = wrong;
            step(run, x, m, longest);
            if (wrong > before) {
                return;
            }
        }
        keepSmall(x, m);
        due(run, "checksum", x.checksum(), m.checksum());
        if (calls > MOST_CALLS) {
            wrong++;
            System.out.println("run " + run + " has " + calls + " calls");
        }
    }

    /** The model can't look at words with very many alike ones: both forget them. */
    private static void keepSmall(CommutingWords x, PlainModel m) {
        for (int w = 0; w < 6; w++) {
            if (!m.small(m.s.words[w])) {
                x.clear(w);
                calls++;
                m.clear(w);
            }
        }
    }

    private static boolean bothSmall(PlainModel m, int u, int w) {
        if (u < 0 || u > 5 || w < 0 || w > 5) {
            return true;
        }
        return m.small(m.s.words[u] + m.s.words[w]) && m.small(m.s.words[w] + m.s.words[u]);
    }

    private static boolean multipleSmall(PlainModel m, int u, int w) {
        if (u < 0 || u > 5 || w < 0 || w > 5) {
            return true;
        }
        String least = m.multiple(u, w);
        return least == null || m.small(least);
    }

    private static void step(int run, CommutingWords x, PlainModel m, int longest) {
        int u = about(5);
        int w = about(5);
        int r = about(5);
        int a = about(m.s.letters - 1);
        int b = about(m.s.letters - 1);
        boolean on = random.nextInt(3) > 0;
        String args = "(" + u + ", " + w + ", " + r + " / " + a + ", " + b + ", " + on + ")";
        switch (random.nextInt(46)) {
            case 0:
                if (random.nextInt(6) == 0) {
                    int k = pick(1, 7);
                    due(run, "setLetters " + k, x.setLetters(k), m.setLetters(k));
                }
                break;
            case 1: case 2: case 3:
                due(run, "setIndependent" + args, x.setIndependent(a, b, on), m.setIndependent(a, b, on));
                break;
            case 4:
                due(run, "independent" + args, x.independent(a), m.independent(a));
                break;
            case 5:
                int n = pick(-1, 4);
                due(run, "different " + n, x.different(n), m.different(n));
                due(run, "different 17", x.different(17), m.different(17));
                break;
            case 6: case 7: case 8: case 9: case 10: case 11: case 12:
                if (m.length(u) < longest) {
                    due(run, "add" + args, x.add(u, a), m.add(u, a));
                }
                break;
            case 13:
                due(run, "clear" + args, x.clear(u), m.clear(u));
                break;
            case 14:
                due(run, "length" + args, x.length(u), m.length(u));
                break;
            case 15:
                int i = about(15);
                due(run, "letter" + args + i, x.letter(u, i), m.letter(u, i));
                break;
            case 16: case 17:
                for (int j = -1; j <= 16; j++) {
                    due(run, "normal" + args + j, x.normal(u, j), m.normal(u, j));
                }
                break;
            case 18:
                due(run, "layers" + args, x.layers(u), m.layers(u));
                for (int j = -1; j <= 8; j++) {
                    due(run, "layer" + args + j, x.layer(u, j), m.layer(u, j));
                }
                break;
            case 19:
                int p = about(7);
                due(run, "projected" + args + p, x.projected(u, a, b, p), m.projected(u, a, b, p));
                break;
            case 20:
                due(run, "alikeWords" + args, x.alikeWords(u), m.alikeWords(u));
                break;
            case 21:
                due(run, "alike" + args, x.alike(u, w), m.alike(u, w));
                break;
            case 22:
                if (bothSmall(m, u, w)) {
                    due(run, "commute" + args, x.commute(u, w), m.commute(u, w));
                }
                break;
            case 23:
                due(run, "connected" + args, x.connected(u), m.connected(u));
                break;
            case 24:
                due(run, "isPrefix" + args, x.isPrefix(u, w), m.isPrefix(u, w));
                break;
            case 25:
                due(run, "isFactor" + args, x.isFactor(u, w), m.isFactor(u, w));
                break;
            case 26:
                due(run, "exponent" + args, x.exponent(u), m.exponent(u));
                break;
            case 27: case 28:
                if (bothSmall(m, u, w)) {
                    due(run, "product" + args, x.product(u, w, r), m.product(u, w, r));
                }
                break;
            case 29:
                due(run, "quotient" + args, x.quotient(u, w, r), m.quotient(u, w, r));
                break;
            case 30:
                due(run, "commonPrefix" + args, x.commonPrefix(u, w, r), m.commonPrefix(u, w, r));
                break;
            case 31:
                if (multipleSmall(m, u, w)) {
                    due(run, "commonMultiple" + args, x.commonMultiple(u, w, r), m.commonMultiple(u, w, r));
                }
                break;
            case 32:
                due(run, "root" + args, x.root(u, r), m.root(u, r));
                break;
            case 33:
                due(run, "reverse" + args, x.reverse(u, r), m.reverse(u, r));
                break;
            case 34: case 35:
                write(run, x, m);
                break;
            case 36:
                due(run, "matches" + args, x.matches(u), m.matches(u));
                break;
            case 37:
                due(run, "starConnected", x.starConnected(), m.starConnected());
                due(run, "shortest", x.shortest(), m.shortest());
                break;
            case 38:
                int states = random.nextInt(3) == 0 ? pick(0, 7) : m.s.states;
                if (random.nextInt(4) == 0) {
                    due(run, "setStates " + states, x.setStates(states), m.setStates(states));
                }
                break;
            case 39: case 40:
                int q = about(m.s.states - 1);
                int to = about(m.s.states - 1);
                due(run, "setArrow" + q + args + to, x.setArrow(q, a, to), m.setArrow(q, a, to));
                break;
            case 41:
                int state = about(m.s.states - 1);
                due(run, "setAccepting" + state, x.setAccepting(state, on), m.setAccepting(state, on));
                break;
            case 42:
                due(run, "acceptedAlike" + args, x.acceptedAlike(u), m.acceptedAlike(u));
                break;
            case 43:
                due(run, "brokenDiamond", x.brokenDiamond(), m.brokenDiamond());
                due(run, "closed", x.closed(), m.closed());
                break;
            case 44:
                int slot = pick(-1, 2);
                if (on) {
                    due(run, "save " + slot, x.save(slot), m.save(slot));
                } else if (random.nextInt(3) == 0) {
                    due(run, "restore " + slot, x.restore(slot), m.restore(slot));
                }
                break;
            default:
                due(run, "checksum", x.checksum(), m.checksum());
                break;
        }
    }

    private static void write(int run, CommutingWords x, PlainModel m) {
        if (random.nextInt(8) > 0) {
            due(run, "clearText", x.clearText(), m.clearText());
        }
        String text = random.nextInt(3) == 0
            ? EXPRESSIONS[random.nextInt(EXPRESSIONS.length)] : grown(pick(0, 4), m.s.letters);
        if (random.nextInt(12) == 0) {
            text = noise(pick(1, 12));
        }
        for (char c : text.toCharArray()) {
            due(run, "append " + c, x.append(c), m.append(c));
        }
        due(run, "append about", x.append(-1), m.append(-1));
        due(run, "faultPosition of " + text, x.faultPosition(), m.faultPosition());
        due(run, "starConnected of " + text, x.starConnected(), m.starConnected());
        due(run, "shortest of " + text, x.shortest(), m.shortest());
        for (int w = 0; w < 6; w++) {
            due(run, m.s.words[w] + " matches " + text, x.matches(w), m.matches(w));
        }
    }

    private static String noise(int length) {
        StringBuilder t = new StringBuilder();
        for (int i = 0; i < length; i++) {
            t.append("abcdef1()+*()a bZ".charAt(random.nextInt(17)));
        }
        return t.toString();
    }

    /** An expression without a fault. */
    private static String grown(int depth, int letters) {
        int kind = random.nextInt(depth == 0 ? 2 : 7);
        switch (kind) {
            case 0: case 1:
                return random.nextInt(7) == 0 ? "1" : "" + (char) ('a' + random.nextInt(letters));
            case 2: case 3:
                return grown(depth - 1, letters) + grown(depth - 1, letters);
            case 4:
                return "(" + grown(depth - 1, letters) + "+" + grown(depth - 1, letters) + ")";
            default:
                return "(" + grown(depth - 1, letters) + ")*";
        }
    }
}
