/** The boundary cases of promises 27 to 32, a test for each sentence that names one. */
public final class ExpressionsBoundaryTest extends Boundaries {
    private static final String DEEP_A = "(".repeat(39) + "a" + ")".repeat(39);

    public static void main(String[] args) {
        append();
        clearText();
        faultPosition();
        matches();
        starConnected();
        shortest();
        finish(27, 32);
    }

    private static void append() {
        edge(27, "letter: 0 to 127", "every number from 0 to 127 is taken", () -> {
            for (int letter = 0; letter <= 127; letter++) {
                x.clearText();
                due("append(" + letter + ")", x.append(letter), 1);
            }
        });
        edge(27, "letter: 0 to 127", "also what is no part of an expression", () -> {
            due("append(0)", x.append(0), 1);
            due("append(127)", x.append(127), 2);
            due("faultPosition()", x.faultPosition(), 0);
        });
        edge(27, "Returns the length of the text then", "from 1 to 80", () -> {
            for (int length = 1; length <= 80; length++) {
                due("append('a')", x.append('a'), length);
            }
        });
        edge(27, "BAD_VALUE", "below 0", () -> due("append(-1)", x.append(-1), BAD_VALUE));
        edge(27, "BAD_VALUE", "above 127", () -> due("append(128)", x.append(128), BAD_VALUE));
        edge(27, "BAD_VALUE", "far outside, also what has the letter a as its last byte", () -> {
            dueOutside(0, 127, "append(?)", l -> x.append(l), BAD_VALUE);
            due("append(256 + 'a')", x.append(256 + 'a'), BAD_VALUE);
            due("append('a' - 256)", x.append('a' - 256), BAD_VALUE);
            due("clearText()", x.clearText(), 0);
        });
        edge(27, "FULL if it has 80 bytes", "there is no room for an 81st byte", () -> {
            write("a".repeat(80));
            due("append('(')", x.append('('), FULL);
            due("faultPosition()", x.faultPosition(), NONE);
            due("clearText()", x.clearText(), 80);
        });
        edge(27, "FULL if it has 80 bytes", "there is room for the 80th byte, and after clearText again", () -> {
            write("a".repeat(79));
            due("append('a')", x.append('a'), 80);
            x.clearText();
            due("append('a')", x.append('a'), 1);
        });
    }

    private static void clearText() {
        edge(28, "Empties the text.", "a full text", () -> {
            write("a".repeat(80));
            x.clearText();
            due("faultPosition()", x.faultPosition(), 0);
            due("append('a')", x.append('a'), 1);
            due("shortest()", x.shortest(), 1);
        });
        edge(28, "Empties the text.", "an empty text stays empty", () -> {
            x.clearText();
            due("faultPosition()", x.faultPosition(), 0);
        });
        edge(28, "Returns the length that it had", "0 and 80", () -> {
            due("clearText()", x.clearText(), 0);
            write("a".repeat(80));
            due("clearText()", x.clearText(), 80);
            due("clearText()", x.clearText(), 0);
        });
    }

    private static void dueFault(String text, int want) {
        write(text);
        due("faultPosition() of " + text, x.faultPosition(), want);
    }

    private static void faultPosition() {
        edge(29, "Returns the fault position of the text", "0, in the empty text and in others", () -> {
            dueFault("", 0);
            dueFault("*", 0);
            dueFault("+a", 0);
            dueFault(")", 0);
            dueFault("e", 0);
        });
        edge(29, "Returns the fault position of the text", "79, the last byte of a full text", () -> {
            dueFault("a".repeat(79) + ")", 79);
            dueFault("a".repeat(79) + "e", 79);
            dueFault("a".repeat(78) + "++", 79);
        });
        edge(29, "Returns the fault position of the text", "80, a full text that ends too early", () -> {
            dueFault("(".repeat(80), 80);
            dueFault("a".repeat(79) + "+", 80);
            dueFault("(" + "a".repeat(79), 80);
        });
        edge(29, "Returns the fault position of the text", "the first one of several faults", () -> {
            dueFault("a++)(*", 2);
            dueFault("e)", 0);
        });
        edge(29, "NONE if it has no fault", "the shortest and the longest expressions", () -> {
            dueFault("a", NONE);
            dueFault("1", NONE);
            dueFault("d".repeat(80), NONE);
            dueFault("a" + "*".repeat(79), NONE);
            dueFault(DEEP_A + "**", NONE);
        });
    }

    private static void dueMatch(String text, String word, int want) {
        write(text);
        put(0, word);
        due("matches(0) of " + word + " with " + text, x.matches(0), want);
    }

    private static void matches() {
        String answer = "Returns 1 if it matches the expression of the text, 0 if not";
        edge(30, "word: a word", "the first and the last word", () -> {
            write("a");
            put(0, "a");
            put(5, "b");
            dueForWords("matches(?)", w -> x.matches(w), 1, 0);
        });
        edge(30, answer, "the empty word", () -> {
            dueMatch("1", "", 1);
            dueMatch("a*", "", 1);
            dueMatch("(ab)*(1+c)", "", 1);
            dueMatch("a", "", 0);
            dueMatch("a*b", "", 0);
        });
        edge(30, answer, "a full word, also one letter less and one more in the expression", () -> {
            dueMatch("a".repeat(16), A16, 1);
            dueMatch("a".repeat(15), A16, 0);
            dueMatch("a".repeat(17), A16, 0);
            dueMatch("(aaaa)*", A16, 1);
            dueMatch("(aaa)*", A16, 0);
        });
        edge(30, answer, "a full word, all of whose letters have to be exchanged", () -> {
            free("ab");
            dueMatch("b*a*", "aaaaaaaabbbbbbbb", 1);
            dueMatch("(ba)*", "aaaaaaaabbbbbbbb", 1);
            dueMatch("(ba)*", "aaaaaaaabbbbbbb", 0);
            dueMatch("bbbbbbbbaaaaaaaa", "aaaaaaaabbbbbbbb", 1);
        });
        edge(30, answer, "only one of two ways to read the same letters goes on", () -> {
            free("ab");
            dueMatch("abc+bad", "abc", 1);
            dueMatch("abc+bad", "bad", 1);
            dueMatch("bac+abd", "abc", 1);
            dueMatch("bac+abd", "abcd", 0);
        });
        edge(30, answer, "the last of 80 bytes counts", () -> {
            dueMatch("b".repeat(77) + "+ca", "ca", 1);
            dueMatch("b".repeat(77) + "+ca", "c", 0);
            dueMatch("(b+c)*".repeat(13) + "da", "bcbda", 1);
            dueMatch("(b+c)*".repeat(13) + "da", "bcbd", 0);
        });
        edge(30, answer, "the first and the last summand have the same word", () -> {
            dueMatch("a+" + "b".repeat(75) + "+a", "a", 1);
            dueMatch("a+" + "b".repeat(75) + "+a", "aa", 0);
        });
        edge(30, answer, "two stars are as good as one", () -> {
            dueMatch("a**", "", 1);
            dueMatch("a**", A16, 1);
            dueMatch("(ab**)**", "abbab", 1);
            dueMatch("(ab**)**", "ba", 0);
        });
        edge(30, answer, "many brackets and many stars", () -> {
            dueMatch(DEEP_A, "a", 1);
            dueMatch(DEEP_A + "*", A16, 1);
            dueMatch(DEEP_A + "*", "aab", 0);
            dueMatch("a" + "*".repeat(79), A16, 1);
            dueMatch("a" + "*".repeat(79), "b", 0);
        });
        edge(30, "BAD_INDEX", "no such word", () -> {
            write("a");
            dueNoWords("matches(?)", w -> x.matches(w));
        });
        edge(30, "NOT_POSSIBLE if the text has a fault", "the empty text", () ->
            due("matches(0)", x.matches(0), NOT_POSSIBLE));
        edge(30, "NOT_POSSIBLE if the text has a fault", "a fault at the end alone, or of a letter alone", () -> {
            dueMatch("a+", "a", NOT_POSSIBLE);
            dueMatch("a)", "a", NOT_POSSIBLE);
            dueMatch("a+e", "a", NOT_POSSIBLE);
            dueMatch("a".repeat(79) + "(", "a", NOT_POSSIBLE);
        });
        edge(30, "NOT_POSSIBLE if the text has a fault", "as soon as there are fewer letters", () -> {
            write("d");
            due("matches(0)", x.matches(0), 0);
            x.setLetters(3);
            due("matches(0)", x.matches(0), NOT_POSSIBLE);
        });
    }

    private static void dueStars(String text, int want) {
        write(text);
        due("starConnected() of " + text, x.starConnected(), want);
    }

    private static void starConnected() {
        String answer = "Returns 1 if the expression of the text is star-connected, 0 if not";
        edge(31, answer, "without a star it always is", () -> {
            free("ab");
            dueStars("ab", 1);
            dueStars("1", 1);
            dueStars("(a+b)(ba)", 1);
        });
        edge(31, answer, "a star of the empty word, of a letter, of letters each by itself", () -> {
            letters(6, ALL_SIX);
            dueStars("1*", 1);
            dueStars("a*", 1);
            dueStars("(a+b+c+d+e+f)*", 1);
            dueStars("(a+b+c+d+e+f)**", 0);
        });
        edge(31, answer, "a star of two letters, dependent or not", () -> {
            dueStars("(ab)*", 1);
            free("ab");
            dueStars("(ab)*", 0);
            x.setIndependent(0, 1, false);
            dueStars("(ab)*", 1);
        });
        edge(31, answer, "one of several stars is enough, the first, an inner or the last one", () -> {
            free("ab");
            dueStars("(ab)*c*d*", 0);
            dueStars("(c(ab)*)*d*", 0);
            dueStars("c*d*(ab)*", 0);
            dueStars("(abc)*(abd)*", 1);
        });
        edge(31, answer, "a single word that is not connected is enough", () -> {
            free("ab");
            dueStars("(a(1+c)b)*", 0);
            dueStars("(acb+bca)*", 1);
            dueStars("(a*b*c)*", 1);
            dueStars("(a*b*)*", 0);
            dueStars("((a+1)(a+1)b)*", 0);
            dueStars("((a+c)*b)*", 0);
            dueStars("((a+c)*cb)*", 1);
        });
        edge(31, answer, "the empty word in a product adds nothing", () -> {
            free("ab");
            dueStars("(1b)*", 1);
            dueStars("(b1)*", 1);
            dueStars("(c1ab)*", 1);
            dueStars("(a1b)*", 0);
        });
        edge(31, answer, "a text of 80 bytes", () -> {
            free("ab");
            dueStars("a".repeat(76) + "(b)*", 1);
            dueStars("(" + "a".repeat(76) + "b)*", 0);
            dueStars("a" + "*".repeat(79), 1);
        });
        edge(31, "NOT_POSSIBLE if the text has a fault", "the empty text", () ->
            due("starConnected()", x.starConnected(), NOT_POSSIBLE));
        edge(31, "NOT_POSSIBLE if the text has a fault", "a fault at the end alone, or of a letter alone", () -> {
            dueStars("a*+", NOT_POSSIBLE);
            dueStars("a*)", NOT_POSSIBLE);
            dueStars("e*", NOT_POSSIBLE);
            dueStars("a".repeat(79) + "(", NOT_POSSIBLE);
        });
    }

    private static void dueShortest(String text, int want) {
        write(text);
        due("shortest() of " + text, x.shortest(), want);
    }

    private static void shortest() {
        String answer = "Returns the smallest length of a word that matches the expression of the text";
        edge(32, answer, "0, of the empty word", () -> {
            dueShortest("1", 0);
            dueShortest("a*", 0);
            dueShortest("abcd+1", 0);
            dueShortest("(ab)*(cd)*", 0);
        });
        edge(32, answer, "1, of a letter", () -> {
            dueShortest("a", 1);
            dueShortest("a*b", 1);
            dueShortest("abcd+d", 1);
        });
        edge(32, answer, "16, the length of a full word", () -> dueShortest("abcd".repeat(4), 16));
        edge(32, answer, "17 and 80, since words of an expression can be longer than 16 letters", () -> {
            dueShortest("a".repeat(17), 17);
            dueShortest("a".repeat(80), 80);
        });
        edge(32, "NOT_POSSIBLE if the text has a fault", "the empty text", () ->
            due("shortest()", x.shortest(), NOT_POSSIBLE));
        edge(32, "NOT_POSSIBLE if the text has a fault", "a fault at the end alone, or of a letter alone", () -> {
            dueShortest("a+", NOT_POSSIBLE);
            dueShortest("a)", NOT_POSSIBLE);
            dueShortest("a+e", NOT_POSSIBLE);
            dueShortest("a".repeat(79) + "(", NOT_POSSIBLE);
        });
    }
}
