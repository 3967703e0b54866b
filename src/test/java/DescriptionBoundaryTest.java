/** The boundary cases of the document's description, a test for each sentence that names one. */
public final class DescriptionBoundaryTest extends Boundaries {
    private static final String A8B8 = "aaaaaaaabbbbbbbb";
    private static final String B8A8 = "bbbbbbbbaaaaaaaa";

    public static void main(String[] args) {
        calls();
        letters();
        words();
        formsLayersAndProjections();
        prefixesAndFactors();
        greatestAndLeast();
        connectedWordsAndRoots();
        results();
        grammar();
        meaningOfExpressions();
        faults();
        matchesAndStars();
        states();
        diamonds();
        ErrorBoundaries.run();
        finish("Description");
    }

    private static void test(String sentence, String what, Body body) {
        edge("Description", sentence, what, body);
    }

    private static void calls() {
        edge("What it is", "An object is used for at most 512 calls after it has been made",
            "the 512th call still answers", () -> {
            x.setIndependent(0, 1, true);
            for (int call = 2; call <= 17; call++) {
                x.add(0, call % 2);
            }
            for (int call = 18; call <= 511; call++) {
                due("call " + call + ", alikeWords(0)", x.alikeWords(0), 12870);
            }
            due("call 512, alikeWords(0)", x.alikeWords(0), 12870);
        });
        edge("What it is", "they have the same normal forms, layers and projections",
            "full words, exchanged as far as can be", () -> {
            free("ab");
            put(0, "cd" + "aaaaaaabbbbbbb");
            put(1, "cd" + "bbbbbbbaaaaaaa");
            for (int i = 0; i < 17; i++) {
                due("normal(1, " + i + ")", x.normal(1, i), x.normal(0, i));
                due("layer(1, " + i + ")", x.layer(1, i), x.layer(0, i));
                due("projected(1, 0, 2, " + i + ")", x.projected(1, 0, 2, i), x.projected(0, 0, 2, i));
                due("projected(1, 1, 3, " + i + ")", x.projected(1, 1, 3, i), x.projected(0, 1, 3, i));
            }
        });
    }

    private static void letters() {
        String there = "There are k letters, 0 to k - 1 (written a to f), with k from 2 to 6, at first 4.";
        test(there, "for each k the letter k - 1 is the last one", () -> {
            for (int k = 2; k <= 6; k++) {
                x.setLetters(k);
                due("add(0, -1)", x.add(0, -1), BAD_INDEX);
                due("add(0, 0)", x.add(0, 0), 1);
                due("add(0, " + (k - 1) + ")", x.add(0, k - 1), 2);
                due("add(0, " + k + ")", x.add(0, k), BAD_INDEX);
            }
        });
        test(there, "k is not 1 and not 7", () -> {
            due("setLetters(1)", x.setLetters(1), BAD_VALUE);
            due("setLetters(7)", x.setLetters(7), BAD_VALUE);
        });
        test(there, "at first the letter 3 is the last one", () -> {
            due("add(0, 3)", x.add(0, 3), 1);
            due("add(0, 4)", x.add(0, 4), BAD_INDEX);
        });
        test("(written a to f)", "a is the letter 0, f is the letter 5", () -> {
            x.setLetters(6);
            put(0, "a");
            put(1, "f");
            write("a");
            due("matches(0)", x.matches(0), 1);
            due("matches(1)", x.matches(1), 0);
            write("f");
            due("matches(0)", x.matches(0), 0);
            due("matches(1)", x.matches(1), 1);
        });
        test("a letter is always dependent on itself", "with all pairs independent", () -> {
            x = new CommutingWords();
            letters(6, ALL_SIX);
            for (int letter = 0; letter < 6; letter++) {
                due("independent(" + letter + ")", x.independent(letter) >> letter & 1, 0);
                due("setIndependent", x.setIndependent(letter, letter, true), BAD_INDEX);
            }
            put(0, "ff");
            due("layers(0)", x.layers(0), 2);
        });
        test("At first no letters are independent.", "no pair of four letters", () -> {
            for (int letter = 0; letter < 4; letter++) {
                due("independent(" + letter + ")", x.independent(letter), 0);
            }
            due("different(2)", x.different(2), 16);
        });
    }

    private static void words() {
        String there = "There are 6 words, numbered 0 to 5, at first empty; a word has at most 16 letters.";
        test(there, "word 5 is the last one", () -> {
            due("length(-1)", x.length(-1), BAD_INDEX);
            due("length(0)", x.length(0), 0);
            due("length(5)", x.length(5), 0);
            due("length(6)", x.length(6), BAD_INDEX);
        });
        test("at first empty", "each of them", () -> {
            for (int word = 0; word < 6; word++) {
                due("length(" + word + ")", x.length(word), 0);
                due("letter(" + word + ", 0)", x.letter(word, 0), NONE);
            }
        });
        test("a word has at most 16 letters", "each of the six has room for 16, and not for 17", () -> {
            for (int word = 0; word < 6; word++) {
                put(word, A16);
            }
            for (int word = 0; word < 6; word++) {
                due("length(" + word + ")", x.length(word), 16);
                due("add(" + word + ", 0)", x.add(word, 0), FULL);
            }
        });
        test("by exchanging, any number of times", "not at all: a word is alike to itself", () -> {
            put(0, "abab");
            put(1, "abab");
            due("alike(0, 1)", x.alike(0, 1), 1);
            due("alike(0, 0)", x.alike(0, 0), 1);
        });
        test("by exchanging, any number of times", "64 times, the most that two letters of a full word can need", () -> {
            free("ab");
            put(0, A8B8);
            put(1, B8A8);
            due("alike(0, 1)", x.alike(0, 1), 1);
        });
        test("two letters that are independent and stand next to each other",
            "a dependent letter between them parts them", () -> {
            free("ab");
            put(0, "acb");
            put(1, "bca");
            due("alike(0, 1)", x.alike(0, 1), 0);
            put(0, "abc");
            put(1, "bac");
            due("alike(0, 1)", x.alike(0, 1), 1);
        });
        test("two letters that are independent and stand next to each other", "dependent neighbours stay", () -> {
            put(0, "ab");
            put(1, "ba");
            due("alike(0, 1)", x.alike(0, 1), 0);
        });
        test("Below, a word stands for all words that are alike to it",
            "two full words that are alike give the same answers", () -> {
            free("ab");
            put(0, A8B8);
            put(1, B8A8);
            put(2, "ba");
            write("(ab)*");
            due("alikeWords", x.alikeWords(0), x.alikeWords(1));
            due("exponent", x.exponent(0), x.exponent(1));
            due("connected", x.connected(0), x.connected(1));
            due("isPrefix", x.isPrefix(2, 0), x.isPrefix(2, 1));
            due("isFactor", x.isFactor(2, 0), x.isFactor(2, 1));
            due("commute", x.commute(2, 0), x.commute(2, 1));
            due("matches", x.matches(0), x.matches(1));
        });
    }

    private static void formsLayersAndProjections() {
        String normal = "The normal form of a word is the lexicographically first one of all words that are alike to it.";
        test(normal, "of the empty word it is empty, of a letter the letter", () -> {
            put(1, "d");
            dueNormal(0, "");
            dueNormal(1, "d");
        });
        test(normal, "a low letter behind a dependent one does not come first", () -> {
            free("ac");
            put(0, "cba");
            dueNormal(0, "cba");
            put(0, "bca");
            dueNormal(0, "bac");
        });
        test(normal, "a lower letter can come first through all sixteen places", () -> {
            letters(6, "af bf cf df ef");
            put(0, "f".repeat(15) + "e");
            dueNormal(0, "e" + "f".repeat(15));
        });
        String layers = "The layers of a word are sets of letters: each place of the word belongs to a layer";
        test(layers, "the empty word has no place and no layer", () -> {
            due("layers(0)", x.layers(0), 0);
            due("layer(0, 0)", x.layer(0, 0), NONE);
        });
        test("the first place to layer 0", "in a word of one letter, and in a full one", () -> {
            put(0, "d");
            put(1, "c" + "a".repeat(15));
            due("layer(0, 0)", x.layer(0, 0), 8);
            due("layer(1, 0)", x.layer(1, 0), 4);
        });
        test("the lowest layer that is higher than the layers of all places before it with a letter that is dependent on its own",
            "without such places before it, it is layer 0, also at the end of a full word", () -> {
                free("ab");
                put(0, "a".repeat(15) + "b");
                due("layer(0, 0)", x.layer(0, 0), 3);
                due("layer(0, 1)", x.layer(0, 1), 1);
                due("layers(0)", x.layers(0), 15);
            });
        test("the lowest layer that is higher than the layers of all places before it with a letter that is dependent on its own",
            "higher than the highest of them, not than the last one", () -> {
                free("ab");
                put(0, "aaabc");
                due("layers(0)", x.layers(0), 4);
                due("layer(0, 3)", x.layer(0, 3), 4);
            });
        test("The projection of a word to two letters is what remains of it without all other letters",
            "all of it, and nothing", () -> {
            put(0, A8B8);
            for (int i = 0; i < 16; i++) {
                due("projected(0, 1, 0, " + i + ")", x.projected(0, 1, 0, i), i / 8);
            }
            due("projected(0, 1, 0, 16)", x.projected(0, 1, 0, 16), NONE);
            due("projected(0, 2, 3, 0)", x.projected(0, 2, 3, 0), NONE);
        });
        test("(if both are the same, only this letter remains)", "once, often and not at all", () -> {
            put(0, "a".repeat(15) + "b");
            due("projected(0, 1, 1, 0)", x.projected(0, 1, 1, 0), 1);
            due("projected(0, 1, 1, 1)", x.projected(0, 1, 1, 1), NONE);
            due("projected(0, 0, 0, 14)", x.projected(0, 0, 0, 14), 0);
            due("projected(0, 0, 0, 15)", x.projected(0, 0, 0, 15), NONE);
            due("projected(0, 2, 2, 0)", x.projected(0, 2, 2, 0), NONE);
        });
    }

    private static void prefixesAndFactors() {
        test("The product of two words is the first one followed by the second one.", "one of them, or both, are empty", () -> {
            put(0, "ab");
            x.product(0, 1, 2);
            dueWord(2, "ab");
            x.product(1, 0, 3);
            dueWord(3, "ab");
            x.product(1, 4, 5);
            dueWord(5, "");
        });
        test("A word u is a prefix of a word w if w is alike to a product of u and some word",
            "this word can be empty, and so can u", () -> {
            put(0, A16);
            due("isPrefix(0, 0)", x.isPrefix(0, 0), 1);
            due("isPrefix(1, 0)", x.isPrefix(1, 0), 1);
            due("isPrefix(1, 1)", x.isPrefix(1, 1), 1);
            due("isPrefix(0, 1)", x.isPrefix(0, 1), 0);
        });
        test("this word, which is determined up to likeness, is the quotient",
            "of a word by itself, and by the empty one", () -> {
            put(0, A16);
            due("quotient(0, 0, 2)", x.quotient(0, 0, 2), 0);
            due("quotient(1, 0, 2)", x.quotient(1, 0, 2), 16);
        });
        test("A word u is a factor of w if w is alike to a product of three words, of which the second one is u.",
            "each of the three can be empty", () -> {
                put(0, "abcd");
                put(1, "ab");
                put(2, "cd");
                put(3, "bc");
                for (int word = 0; word < 5; word++) {
                    due("isFactor(" + word + ", 0)", x.isFactor(word, 0), 1);
                }
                due("isFactor(4, 5)", x.isFactor(4, 5), 1);
                put(5, "ac");
                due("isFactor(5, 0)", x.isFactor(5, 0), 0);
            });
    }

    /** All words of at most two letters, as candidates for what each prefix or multiple has to be compared with. */
    private static final String[] SHORT_WORDS = {"", "a", "b", "c", "aa", "ab", "ac", "ba", "bb", "bc", "ca", "cb", "cc"};

    private static void greatestAndLeast() {
        test("The greatest common prefix of two words is the common prefix of which each common prefix is a prefix.",
            "each short common prefix is a prefix of it", () -> {
                free("ac");
                put(0, "cab");
                put(1, "acc");
                x.commonPrefix(0, 1, 2);
                dueWord(2, "ac");
                for (String candidate : SHORT_WORDS) {
                    put(3, candidate);
                    int common = x.isPrefix(3, 0) * x.isPrefix(3, 1);
                    due("isPrefix of " + candidate, x.isPrefix(3, 2), common);
                }
            });
        test("A common multiple of two words is a word of which both are prefixes", "both are prefixes of the least one", () -> {
            free("ab ac");
            put(0, "bbb");
            put(1, "aac");
            due("commonMultiple(0, 1, 2)", x.commonMultiple(0, 1, 2), NOT_POSSIBLE);
            put(1, "aa");
            due("commonMultiple(0, 1, 2)", x.commonMultiple(0, 1, 2), 5);
            due("isPrefix(0, 2)", x.isPrefix(0, 2), 1);
            due("isPrefix(1, 2)", x.isPrefix(1, 2), 1);
        });
        test("the least one is a prefix of each common multiple", "of each product that begins with both", () -> {
            free("ac");
            put(0, "c");
            put(1, "a");
            due("commonMultiple(0, 1, 2)", x.commonMultiple(0, 1, 2), 2);
            for (String candidate : SHORT_WORDS) {
                put(3, "ac" + candidate);
                due("isPrefix in ac" + candidate, x.isPrefix(2, 3), 1);
                put(3, candidate + "b");
                due("isPrefix in " + candidate + "b", x.isPrefix(2, 3), x.isPrefix(0, 3) * x.isPrefix(1, 3));
            }
        });
        test("(The greatest common prefix always exists", "it is empty if nothing is common", () -> {
            put(0, "a");
            put(1, "b");
            due("commonPrefix(0, 1, 2)", x.commonPrefix(0, 1, 2), 0);
            due("commonPrefix(3, 4, 2)", x.commonPrefix(3, 4, 2), 0);
        });
        test("the least one exists if there is a common multiple", "and if there is none, it does not", () -> {
            put(0, "a");
            put(1, "b");
            due("commonMultiple(0, 1, 2)", x.commonMultiple(0, 1, 2), NOT_POSSIBLE);
            free("ab");
            due("commonMultiple(0, 1, 2)", x.commonMultiple(0, 1, 2), 2);
        });
    }

    private static void connectedWordsAndRoots() {
        test("cannot be divided into two sets, none of them empty", "a single letter cannot", () -> {
            letters(6, ALL_SIX);
            put(0, "f");
            put(1, "a".repeat(16));
            due("connected(0)", x.connected(0), 1);
            due("connected(1)", x.connected(1), 1);
        });
        test("such that each letter of the one is independent of each letter of the other one",
            "one dependent pair is enough to connect them", () -> {
            letters(6, ALL_SIX);
            x.setIndependent(0, 5, false);
            put(0, "af");
            put(1, "afe");
            due("connected(0)", x.connected(0), 1);
            due("connected(1)", x.connected(1), 0);
        });
        test("such that each letter of the one is independent of each letter of the other one", "three pairs of letters", () -> {
            letters(6, ALL_SIX);
            for (int letter = 0; letter < 3; letter++) {
                x.setIndependent(letter, letter + 3, false);
            }
            put(0, "abcdef");
            due("connected(0)", x.connected(0), 0);
            x.setIndependent(0, 1, false);
            due("connected(0)", x.connected(0), 0);
            x.setIndependent(4, 5, false);
            due("connected(0)", x.connected(0), 1);
        });
        test("the empty word is connected", "with independent letters and without", () -> {
            due("connected(0)", x.connected(0), 1);
            letters(6, ALL_SIX);
            due("connected(0)", x.connected(0), 1);
        });
        test("The exponent of a word that is not empty is the greatest e", "the empty word has no exponent and no root", () -> {
            due("exponent(0)", x.exponent(0), NOT_POSSIBLE);
            due("root(0, 1)", x.root(0, 1), NOT_POSSIBLE);
        });
        test("The exponent of a word that is not empty is the greatest e",
            "1 for a letter, 16 for sixteen, not a smaller divisor", () -> {
            put(0, "a");
            put(1, A16);
            put(2, "ab".repeat(6));
            due("exponent(0)", x.exponent(0), 1);
            due("exponent(1)", x.exponent(1), 16);
            due("exponent(2)", x.exponent(2), 6);
        });
        test("it is alike to the product of e copies of a word, which is the root", "one copy is the word itself", () -> {
            put(0, "a".repeat(15) + "b");
            due("exponent(0)", x.exponent(0), 1);
            due("root(0, 1)", x.root(0, 1), 16);
            due("alike(0, 1)", x.alike(0, 1), 1);
        });
        test("it is alike to the product of e copies of a word, which is the root",
            "equal shares of letters are not enough", () -> {
            free("ac");
            put(0, "abcbac");
            due("exponent(0)", x.exponent(0), 1);
            put(0, "acbcab");
            due("exponent(0)", x.exponent(0), 2);
            due("root(0, 1)", x.root(0, 1), 3);
            dueWord(1, "acb");
        });
    }

    private static void results() {
        test("Results that are words are given in normal form", "each result of a word that is not in normal form", () -> {
            free("ab");
            put(0, "ba");
            x.product(0, 1, 2);
            dueWord(2, "ab");
            x.quotient(1, 0, 2);
            dueWord(2, "ab");
            x.commonPrefix(0, 0, 2);
            dueWord(2, "ab");
            x.commonMultiple(0, 1, 2);
            dueWord(2, "ab");
            x.root(0, 2);
            dueWord(2, "ab");
            put(0, "ab");
            x.reverse(0, 2);
            dueWord(2, "ab");
        });
        test("the word that becomes the result has these letters in this order", "its letters, not only its normal form", () -> {
            free("ab");
            put(0, B8A8);
            put(5, "dddd");
            x.product(0, 1, 5);
            dueWord(5, A8B8);
            due("letter(5, 16)", x.letter(5, 16), NONE);
        });
        test("it may be one of the words from which it is made", "a full word becomes its own result", () -> {
            free("ab");
            put(0, B8A8);
            x.product(0, 1, 0);
            dueWord(0, A8B8);
            put(0, B8A8);
            x.quotient(1, 0, 0);
            dueWord(0, A8B8);
            put(0, B8A8);
            x.commonPrefix(0, 0, 0);
            dueWord(0, A8B8);
            put(0, B8A8);
            x.commonMultiple(1, 0, 0);
            dueWord(0, A8B8);
            put(0, B8A8);
            x.reverse(0, 0);
            dueWord(0, A8B8);
            x.root(0, 0);
            dueWord(0, "ab");
        });
    }

    private static void dueFault(String text, int want) {
        write(text);
        due("faultPosition() of " + text, x.faultPosition(), want);
    }

    private static void grammar() {
        test("The text has at most 80 bytes.", "there is room for 80 and not for 81", () -> {
            for (int length = 1; length <= 80; length++) {
                due("append", x.append('a'), length);
            }
            due("append", x.append('a'), FULL);
        });
        test("sum = product { \"+\" product }", "one product, two, and forty", () -> {
            dueFault("a", NONE);
            dueFault("a+b", NONE);
            dueFault("a+".repeat(39) + "a", NONE);
        });
        test("sum = product { \"+\" product }", "a product is missing before, behind or between", () -> {
            dueFault("+a", 0);
            dueFault("a+", 2);
            dueFault("a++a", 2);
            dueFault("a+*", 2);
            dueFault("(a+)", 3);
            dueFault("a+)", 2);
        });
        test("product = item { item }", "one item, two, and eighty", () -> {
            dueFault("1", NONE);
            dueFault("a1", NONE);
            dueFault("1".repeat(80), NONE);
            dueFault("(a)(b)", NONE);
        });
        test("item = atom { \"*\" }", "no star, one, and 79", () -> {
            dueFault("b", NONE);
            dueFault("b*", NONE);
            dueFault("b" + "*".repeat(79), NONE);
            dueFault("(b)**a", NONE);
            dueFault("1*", NONE);
        });
        test("item = atom { \"*\" }", "a star without an atom", () -> {
            dueFault("*", 0);
            dueFault("(*b)", 1);
            dueFault("b+*b", 2);
        });
        test("atom = letter | \"1\" | \"(\" sum \")\"", "of all bytes alone, only letters and 1 are atoms", () -> {
            for (int sign = 0; sign <= 127; sign++) {
                x.clearText();
                x.append(sign);
                int want = sign == '1' || sign >= 'a' && sign <= 'd' ? NONE : sign == '(' ? 1 : 0;
                due("faultPosition() of byte " + sign, x.faultPosition(), want);
            }
        });
        test("atom = letter | \"1\" | \"(\" sum \")\"",
            "of all bytes behind a letter, only those of the grammar follow it", () -> {
            for (int sign = 0; sign <= 127; sign++) {
                x = new CommutingWords();
                x.append('a');
                x.append(sign);
                boolean ends = sign == '*' || sign == '1' || sign >= 'a' && sign <= 'd';
                int want = ends ? NONE : sign == '(' || sign == '+' ? 2 : 1;
                due("faultPosition() of a and byte " + sign, x.faultPosition(), want);
            }
        });
        test("atom = letter | \"1\" | \"(\" sum \")\"", "brackets without a sum, without an end, without a beginning", () -> {
            dueFault("()", 1);
            dueFault("a()", 2);
            dueFault("a(*b)", 2);
            dueFault("a(+b)", 2);
            dueFault("(a)()", 4);
            dueFault("(", 1);
            dueFault("(a", 2);
            dueFault("a)", 1);
            dueFault("(a))", 3);
            dueFault(")(", 0);
        });
        test("atom = letter | \"1\" | \"(\" sum \")\"", "39 brackets in one another", () -> {
            dueFault("(".repeat(39) + "ab" + ")".repeat(39), NONE);
            dueFault("(".repeat(40) + "a" + ")".repeat(39), 80);
            dueFault("(".repeat(39) + "a" + ")".repeat(40), 79);
        });
        test("where braces mean any number of times", "also no time at all, in all three rules", () -> {
            dueFault("a", NONE);
            due("shortest()", x.shortest(), 1);
            dueFault("", 0);
        });
    }

    private static void dueMatch(String text, String word, int want) {
        write(text);
        put(0, word);
        due("matches(0) of " + word + " with " + text, x.matches(0), want);
    }

    private static void meaningOfExpressions() {
        test("A letter a to f stands for the word of this letter", "the first and the last letter", () -> {
            x.setLetters(6);
            dueMatch("a", "a", 1);
            dueMatch("a", "f", 0);
            dueMatch("a", "aa", 0);
            dueMatch("a", "", 0);
            dueMatch("f", "f", 1);
            dueMatch("f", "a", 0);
        });
        test("1 for the empty word", "alone, repeated, and within a product", () -> {
            dueMatch("1", "", 1);
            dueMatch("1", "a", 0);
            dueMatch("1*11", "", 1);
            dueMatch("1a1", "a", 1);
            dueMatch("1a1", "", 0);
        });
        test("a sum for the words of all its products", "the first, the last and the only one", () -> {
            dueMatch("a+b+c", "a", 1);
            dueMatch("a+b+c", "c", 1);
            dueMatch("a+b+c", "d", 0);
            dueMatch("a+b+c", "ab", 0);
            dueMatch("a+a", "a", 1);
        });
        test("a product for the products of words of its items, one after the other", "in this order", () -> {
            dueMatch("ab", "ab", 1);
            dueMatch("ab", "ba", 0);
            dueMatch("ab", "a", 0);
            dueMatch("(a+1)(b+1)", "", 1);
            dueMatch("(a+1)(b+1)", "b", 1);
            dueMatch("ab*", "abb", 1);
            dueMatch("ab*", "abab", 0);
        });
        test("a star for all products of any number of words of what it follows (also of none)", "none, one, and sixteen", () -> {
            dueMatch("a*", "", 1);
            dueMatch("a*", "a", 1);
            dueMatch("a*", A16, 1);
            dueMatch("(a+b)*", "abba", 1);
            dueMatch("(ab)*", "aba", 0);
        });
        test("these words can be longer than 16 letters",
            "such a word is the shortest one, no word of the object matches it", () -> {
            dueMatch("a".repeat(17), A16, 0);
            due("shortest()", x.shortest(), 17);
            dueMatch("a".repeat(17) + "+" + A16, A16, 1);
            due("shortest()", x.shortest(), 16);
        });
        test("these words can be longer than 16 letters", "they count for star-connectedness", () -> {
            free("ab");
            write("(" + "a".repeat(70) + "b)*");
            due("starConnected()", x.starConnected(), 0);
        });
    }

    private static void faults() {
        test("The text is read as an expression by the letters that there are", "each number of letters has its last one", () -> {
            for (int k = 2; k <= 6; k++) {
                x.setLetters(k);
                dueFault("" + (char) ('a' + k - 1), NONE);
                dueFault("a" + (char) ('a' + k), 1);
            }
        });
        test("The text is read as an expression by the letters that there are",
            "by those of now, not of when it was written", () -> {
            x.setLetters(2);
            dueFault("af", 1);
            x.setLetters(6);
            due("faultPosition()", x.faultPosition(), NONE);
            x.setLetters(5);
            due("faultPosition()", x.faultPosition(), 1);
        });
        test("the index, counted from 0, of the first byte with which the text does not follow the grammar",
            "0, 79 and the first of two", () -> {
            dueFault("+", 0);
            dueFault("a".repeat(79) + ")", 79);
            dueFault("a))", 1);
        });
        test("(also a letter that there is not)", "e of four letters, g of six, a capital letter", () -> {
            dueFault("abe", 2);
            x.setLetters(6);
            dueFault("abe", NONE);
            dueFault("g", 0);
            dueFault("A", 0);
        });
        test("or its length if it ends too early", "1, 2 and 80", () -> {
            dueFault("(", 1);
            dueFault("a+", 2);
            dueFault("(" + "a".repeat(79), 80);
        });
        test("(so an empty text has its fault at 0)", "at first, and after it has been emptied", () -> {
            due("faultPosition()", x.faultPosition(), 0);
            dueFault("a", NONE);
            x.clearText();
            due("faultPosition()", x.faultPosition(), 0);
        });
    }

    private static void matchesAndStars() {
        test("A word matches the expression if some word that is alike to it is a word of the expression.",
            "only one of 12870 alike words is", () -> {
            free("ab");
            dueMatch(B8A8, A8B8, 1);
            dueMatch("abbbbbbbaaaaaaab", A8B8, 1);
            x.setIndependent(0, 1, false);
            dueMatch(B8A8, A8B8, 0);
        });
        test("A word matches the expression if some word that is alike to it is a word of the expression.",
            "the empty word is alike to itself alone", () -> {
            free("ab");
            dueMatch("1", "", 1);
            dueMatch("ab", "", 0);
        });
        String stars = "The expression is star-connected if, for each of its stars, all words of what the star follows are connected.";
        test(stars, "without stars, and with stars of the empty word alone", () -> {
            free("ab");
            write("ab+ba");
            due("starConnected()", x.starConnected(), 1);
            write("(1+1)*");
            due("starConnected()", x.starConnected(), 1);
        });
        test(stars, "a star that follows a star is one of its stars", () -> {
            free("ab");
            write("(a+b)*");
            due("starConnected()", x.starConnected(), 1);
            write("(a+b)**");
            due("starConnected()", x.starConnected(), 0);
            write("(ac+b)**");
            due("starConnected()", x.starConnected(), 1);
            write("((a+b)*c)*");
            due("starConnected()", x.starConnected(), 1);
        });
    }

    private static void states() {
        String there = "There are n states, 0 to n - 1, with n from 1 to 6, at first 1; the first one is state 0.";
        test(there, "for each n the state n - 1 is the last one", () -> {
            for (int n = 1; n <= 6; n++) {
                x.setStates(n);
                due("setAccepting(-1, true)", x.setAccepting(-1, true), BAD_INDEX);
                due("setAccepting(" + (n - 1) + ", true)", x.setAccepting(n - 1, true), 0);
                due("setAccepting(" + n + ", true)", x.setAccepting(n, true), BAD_INDEX);
            }
        });
        test(there, "n is not 0 and not 7", () -> {
            due("setStates(0)", x.setStates(0), BAD_VALUE);
            due("setStates(7)", x.setStates(7), BAD_VALUE);
        });
        test("at first 1", "a new object has state 0 alone", () -> {
            due("setArrow(0, 0, 0)", x.setArrow(0, 0, 0), 0);
            due("setArrow(0, 0, 1)", x.setArrow(0, 0, 1), BAD_INDEX);
            due("setStates(1)", x.setStates(1), 1);
        });
        test("the first one is state 0", "the empty word leads to it", () -> {
            x.setStates(6);
            x.setAccepting(5, true);
            due("acceptedAlike(0)", x.acceptedAlike(0), 0);
            x.setAccepting(0, true);
            due("acceptedAlike(0)", x.acceptedAlike(0), 1);
        });
        test("For each state and each letter there is an arrow to a state, at first to the same state.",
            "all 36 arrows of six states and six letters", () -> {
            x.setLetters(6);
            x.setStates(6);
            for (int arrow = 0; arrow < 36; arrow++) {
                due("arrow " + arrow, x.setArrow(arrow / 6, arrow % 6, 5 - arrow / 6), arrow / 6);
            }
            for (int arrow = 0; arrow < 36; arrow++) {
                due("arrow " + arrow, x.setArrow(arrow / 6, arrow % 6, 0), 5 - arrow / 6);
            }
        });
        test("A state is accepting or not; at first none is.", "none of six", () -> {
            x.setStates(6);
            for (int state = 0; state < 6; state++) {
                due("setAccepting(" + state + ", false)", x.setAccepting(state, false), 0);
            }
        });
        test("A word is accepted if the arrows of its letters lead from state 0 to an accepting state.",
            "only the end counts, not what lies between", () -> {
            x.setStates(3);
            lead("0a1 1a2");
            x.setAccepting(1, true);
            put(0, "a");
            put(1, "aa");
            due("acceptedAlike(0)", x.acceptedAlike(0), 1);
            due("acceptedAlike(1)", x.acceptedAlike(1), 0);
            due("acceptedAlike(2)", x.acceptedAlike(2), 0);
        });
    }

    private static void diamonds() {
        test("A diamond is a state q and two independent letters x < y", "dependent letters make none", () -> {
            x.setStates(3);
            lead("0a1 1b2");
            due("brokenDiamond()", x.brokenDiamond(), NONE);
            x.setIndependent(1, 0, true);
            due("brokenDiamond()", x.brokenDiamond(), 1);
        });
        test("it commutes if the arrows of x and y, one after the other, lead from q to the same state as those of y and x",
            "the ends count, not the ways", () -> {
                free("ab");
                x.setStates(4);
                lead("0a1 0b2 1b3 2a3");
                due("brokenDiamond()", x.brokenDiamond(), NONE);
                lead("2a2");
                due("brokenDiamond()", x.brokenDiamond(), 1);
            });
        test("closed if of two words that are alike, of whatever length, either both are accepted or none",
            "two letters are enough", () -> {
            free("ab");
            x.setStates(3);
            lead("0a1 1b2");
            x.setAccepting(2, true);
            due("closed()", x.closed(), 0);
        });
        test("closed if of two words that are alike, of whatever length, either both are accepted or none",
            "ten letters are needed", () -> {
            letters(2, "ab");
            x.setStates(6);
            lead("0a1 0b1 1a2 1b2 2a3 2b3 3a4 3b4 4a5 4b5 5b0");
            for (int state = 0; state < 6; state++) {
                x.setAccepting(state, state != 4);
            }
            due("closed()", x.closed(), 0);
            put(0, "aaaaaabaaa");
            due("alikeWords(0)", x.alikeWords(0), 10);
            due("acceptedAlike(0) is all or none", x.acceptedAlike(0) % 10 == 0 ? 1 : 0, 0);
        });
    }
}
