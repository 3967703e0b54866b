import java.util.Random;

/** Long runs of calls, ordinary and wrong ones, each answer compared with that of the plain model. */
public final class ModelTest {
    private static final int RUNS = 400;
    private static final int CALLS = 510;
    private static final String[] EXPRESSIONS = {
        "(ab)*c", "(a+b)*", "(a+b)**", "a*b*c*", "((a+1)(b+1)(c+1))*", "(ab+ba)*(1+c)", "1", "1*", "(1+a)*b",
        "(a*b*)*", "((ab)*c)*", "(abc)*(a+b)", "(a(b+c)*)*", "ab*c*d", "(ad+bc)*", "((a))*(b)", "a+b+c+1",
        "(ef)*(a+b+c+d)*", "aabbab", "(aabb)*", "()", "a+", "+a", "*", "a)", "(a", "a(*", "a**b", "g", "A",
        "(a+b)(a+b)(a+b)(a+b)", "(1+a*)*(1+b)*", "((((a*)*b)*c)*d)*"
    };

    private static Random random;
    private static int wrong;
    private static int compared;

    private static int pick(int least, int most) {
        return least + random.nextInt(most - least + 1);
    }

    /** Mostly from 0 to most, sometimes outside. */
    private static int about(int most) {
        int kind = random.nextInt(40);
        if (kind == 0) {
            return -1;
        }
        if (kind == 1) {
            return most + 1;
        }
        if (kind == 2) {
            int[] far = {Integer.MIN_VALUE, Integer.MAX_VALUE, -5, 64, 1 << 16};
            return far[random.nextInt(far.length)];
        }
        return pick(0, most);
    }

    public static void main(String[] args) {
        for (int run = 0; run < RUNS && wrong < 20; run++) {
            random = new Random(run);
            one(run);
        }
        System.out.println(compared + " answers compared, " + wrong + " wrong");
        if (wrong > 0) {
            System.exit(1);
        }
    }

    private static void due(int run, int call, String name, long got, long want) {
        compared++;
        if (got != want) {
            wrong++;
            System.out.println("run " + run + " call " + call + ": " + name + " answered " + got + ", due is " + want);
        }
    }

    private static void one(int run) {
        CommutingWords x = new CommutingWords();
        PlainModel m = new PlainModel();
        int longest = pick(3, 16);
        int call = 0;
        while (call < CALLS) {
            keepSmall(x, m);
            int before = wrong;
            call += step(run, call, x, m, longest);
            if (wrong > before) {
                return;
            }
        }
        keepSmall(x, m);
        due(run, call, "checksum", x.checksum(), m.checksum());
    }

    /** The model can't look at words with very many alike ones: both forget them. */
    private static void keepSmall(CommutingWords x, PlainModel m) {
        for (int w = 0; w < 6; w++) {
            if (!m.small(m.s.words[w])) {
                x.clear(w);
                m.clear(w);
            }
        }
    }

    private static boolean bothSmall(PlainModel m, int u, int w) {
        if (u < 0 || u > 5 || w < 0 || w > 5) {
            return true;
        }
        return m.small(m.s.words[u] + m.s.words[w]) && m.small(m.s.words[w] + m.s.words[u]);
    }

    private static boolean multipleSmall(PlainModel m, int u, int w) {
        if (u < 0 || u > 5 || w < 0 || w > 5) {
            return true;
        }
        String least = m.multiple(u, w);
        return least == null || m.small(least);
    }

    private static int step(int run, int call, CommutingWords x, PlainModel m, int longest) {
        int u = about(5);
        int w = about(5);
        int r = about(5);
        int a = about(m.s.letters - 1);
        int b = about(m.s.letters - 1);
        boolean on = random.nextInt(3) > 0;
        String args = "(" + u + ", " + w + ", " + r + " / " + a + ", " + b + ", " + on + ")";
        switch (random.nextInt(46)) {
            case 0:
                if (random.nextInt(6) == 0) {
                    int k = pick(1, 7);
                    due(run, call, "setLetters " + k, x.setLetters(k), m.setLetters(k));
                }
                return 1;
            case 1: case 2: case 3:
                due(run, call, "setIndependent" + args, x.setIndependent(a, b, on), m.setIndependent(a, b, on));
                return 1;
            case 4:
                due(run, call, "independent" + args, x.independent(a), m.independent(a));
                return 1;
            case 5:
                int n = pick(-1, 4);
                due(run, call, "different " + n, x.different(n), m.different(n));
                due(run, call, "different 17", x.different(17), m.different(17));
                return 2;
            case 6: case 7: case 8: case 9: case 10: case 11: case 12:
                if (m.length(u) < longest) {
                    due(run, call, "add" + args, x.add(u, a), m.add(u, a));
                }
                return 1;
            case 13:
                due(run, call, "clear" + args, x.clear(u), m.clear(u));
                return 1;
            case 14:
                due(run, call, "length" + args, x.length(u), m.length(u));
                return 1;
            case 15:
                int i = about(15);
                due(run, call, "letter" + args + i, x.letter(u, i), m.letter(u, i));
                return 1;
            case 16: case 17:
                for (int j = -1; j <= 16; j++) {
                    due(run, call, "normal" + args + j, x.normal(u, j), m.normal(u, j));
                }
                return 18;
            case 18:
                due(run, call, "layers" + args, x.layers(u), m.layers(u));
                for (int j = -1; j <= 8; j++) {
                    due(run, call, "layer" + args + j, x.layer(u, j), m.layer(u, j));
                }
                return 11;
            case 19:
                int p = about(7);
                due(run, call, "projected" + args + p, x.projected(u, a, b, p), m.projected(u, a, b, p));
                return 1;
            case 20:
                due(run, call, "alikeWords" + args, x.alikeWords(u), m.alikeWords(u));
                return 1;
            case 21:
                due(run, call, "alike" + args, x.alike(u, w), m.alike(u, w));
                return 1;
            case 22:
                if (bothSmall(m, u, w)) {
                    due(run, call, "commute" + args, x.commute(u, w), m.commute(u, w));
                }
                return 1;
            case 23:
                due(run, call, "connected" + args, x.connected(u), m.connected(u));
                return 1;
            case 24:
                due(run, call, "isPrefix" + args, x.isPrefix(u, w), m.isPrefix(u, w));
                return 1;
            case 25:
                due(run, call, "isFactor" + args, x.isFactor(u, w), m.isFactor(u, w));
                return 1;
            case 26:
                due(run, call, "exponent" + args, x.exponent(u), m.exponent(u));
                return 1;
            case 27: case 28:
                if (bothSmall(m, u, w)) {
                    due(run, call, "product" + args, x.product(u, w, r), m.product(u, w, r));
                }
                return 1;
            case 29:
                due(run, call, "quotient" + args, x.quotient(u, w, r), m.quotient(u, w, r));
                return 1;
            case 30:
                due(run, call, "commonPrefix" + args, x.commonPrefix(u, w, r), m.commonPrefix(u, w, r));
                return 1;
            case 31:
                if (multipleSmall(m, u, w)) {
                    due(run, call, "commonMultiple" + args, x.commonMultiple(u, w, r), m.commonMultiple(u, w, r));
                }
                return 1;
            case 32:
                due(run, call, "root" + args, x.root(u, r), m.root(u, r));
                return 1;
            case 33:
                due(run, call, "reverse" + args, x.reverse(u, r), m.reverse(u, r));
                return 1;
            case 34: case 35:
                return write(run, call, x, m);
            case 36:
                due(run, call, "matches" + args, x.matches(u), m.matches(u));
                return 1;
            case 37:
                due(run, call, "starConnected", x.starConnected(), m.starConnected());
                due(run, call, "shortest", x.shortest(), m.shortest());
                return 2;
            case 38:
                int states = random.nextInt(3) == 0 ? pick(0, 7) : m.s.states;
                if (random.nextInt(4) == 0) {
                    due(run, call, "setStates " + states, x.setStates(states), m.setStates(states));
                }
                return 1;
            case 39: case 40:
                int q = about(m.s.states - 1);
                int to = about(m.s.states - 1);
                due(run, call, "setArrow" + q + args + to, x.setArrow(q, a, to), m.setArrow(q, a, to));
                return 1;
            case 41:
                int state = about(m.s.states - 1);
                due(run, call, "setAccepting" + state, x.setAccepting(state, on), m.setAccepting(state, on));
                return 1;
            case 42:
                due(run, call, "acceptedAlike" + args, x.acceptedAlike(u), m.acceptedAlike(u));
                return 1;
            case 43:
                due(run, call, "brokenDiamond", x.brokenDiamond(), m.brokenDiamond());
                due(run, call, "closed", x.closed(), m.closed());
                return 2;
            case 44:
                int slot = pick(-1, 2);
                if (on) {
                    due(run, call, "save " + slot, x.save(slot), m.save(slot));
                } else if (random.nextInt(3) == 0) {
                    due(run, call, "restore " + slot, x.restore(slot), m.restore(slot));
                }
                return 1;
            default:
                due(run, call, "checksum", x.checksum(), m.checksum());
                return 1;
        }
    }

    private static int write(int run, int call, CommutingWords x, PlainModel m) {
        if (random.nextInt(8) > 0) {
            due(run, call, "clearText", x.clearText(), m.clearText());
        }
        String text = random.nextInt(3) == 0
            ? EXPRESSIONS[random.nextInt(EXPRESSIONS.length)] : grown(pick(0, 4), m.s.letters);
        if (random.nextInt(12) == 0) {
            text = noise(pick(1, 12));
        }
        for (char c : text.toCharArray()) {
            due(run, call, "append " + c, x.append(c), m.append(c));
        }
        due(run, call, "append about", x.append(-1), m.append(-1));
        due(run, call, "faultPosition of " + text, x.faultPosition(), m.faultPosition());
        due(run, call, "starConnected of " + text, x.starConnected(), m.starConnected());
        due(run, call, "shortest of " + text, x.shortest(), m.shortest());
        for (int w = 0; w < 6; w++) {
            due(run, call, m.s.words[w] + " matches " + text, x.matches(w), m.matches(w));
        }
        return 12 + text.length();
    }

    private static String noise(int length) {
        StringBuilder t = new StringBuilder();
        for (int i = 0; i < length; i++) {
            t.append("abcdef1()+*()a bZ".charAt(random.nextInt(17)));
        }
        return t.toString();
    }

    /** An expression without a fault. */
    private static String grown(int depth, int letters) {
        int kind = random.nextInt(depth == 0 ? 2 : 7);
        switch (kind) {
            case 0: case 1:
                return random.nextInt(7) == 0 ? "1" : "" + (char) ('a' + random.nextInt(letters));
            case 2: case 3:
                return grown(depth - 1, letters) + grown(depth - 1, letters);
            case 4:
                return "(" + grown(depth - 1, letters) + "+" + grown(depth - 1, letters) + ")";
            default:
                return "(" + grown(depth - 1, letters) + ")*";
        }
    }
}
