/** The boundary cases of promises 21 to 26, a test for each sentence that names one. */
public final class ResultsBoundaryTest extends Boundaries {
    private static final String A8 = "a".repeat(8);
    private static final String B8 = "b".repeat(8);

    public static void main(String[] args) {
        product();
        quotient();
        commonPrefix();
        commonMultiple();
        root();
        reverse();
        finish(21, 26);
    }

    private static void product() {
        edge(21, "Makes a word the product of two words.", "of two empty words it is empty", () -> {
            put(2, "abc");
            due("product(0, 1, 2)", x.product(0, 1, 2), 0);
            dueWord(2, "");
        });
        edge(21, "Makes a word the product of two words.", "with an empty word it is the other one", () -> {
            put(0, "dab");
            due("product(0, 1, 2)", x.product(0, 1, 2), 3);
            dueWord(2, "dab");
            due("product(1, 0, 3)", x.product(1, 0, 3), 3);
            dueWord(3, "dab");
        });
        edge(21, "Makes a word the product of two words.", "in this order, and the two words stay", () -> {
            put(0, "ab");
            put(1, "cd");
            x.product(1, 0, 5);
            dueWord(5, "cdab");
            dueWord(0, "ab");
            dueWord(1, "cd");
        });
        edge(21, "first: a word", "the first and the last word", () -> {
            put(0, "a");
            put(5, "bb");
            dueForWords("product(?, 1, 2)", w -> x.product(w, 1, 2), 1, 2);
        });
        edge(21, "second: a word", "the first and the last word, also the same one", () -> {
            put(0, "a");
            put(5, "bb");
            dueForWords("product(1, ?, 2)", w -> x.product(1, w, 2), 1, 2);
            due("product(5, 5, 2)", x.product(5, 5, 2), 4);
            dueWord(2, "bbbb");
        });
        edge(21, "result: the word that becomes their product", "the first and the last word", () -> {
            put(2, "ab");
            dueForWords("product(2, 3, ?)", w -> x.product(2, 3, w), 2, 2);
            dueWord(0, "ab");
            dueWord(5, "ab");
        });
        edge(21, "result: the word that becomes their product", "the first factor, the second one, and both", () -> {
            put(0, "ab");
            put(1, "cd");
            due("product(0, 1, 0)", x.product(0, 1, 0), 4);
            dueWord(0, "abcd");
            due("product(0, 1, 1)", x.product(0, 1, 1), 6);
            dueWord(1, "abcdcd");
            put(2, "abcdabcd");
            due("product(2, 2, 2)", x.product(2, 2, 2), 16);
            dueWord(2, "abcdabcdabcdabcd");
        });
        edge(21, "result: the word that becomes their product", "in normal form, though both are in normal form", () -> {
            free("ab");
            put(0, B8);
            put(1, A8);
            due("product(0, 1, 2)", x.product(0, 1, 2), 16);
            dueWord(2, A8 + B8);
        });
        edge(21, "Returns its length", "0 and 16", () -> {
            due("product(0, 1, 2)", x.product(0, 1, 2), 0);
            put(0, A16);
            due("product(0, 1, 2)", x.product(0, 1, 2), 16);
            due("product(1, 0, 2)", x.product(1, 0, 2), 16);
        });
        edge(21, "BAD_INDEX", "the first one is no word", () -> dueNoWords("product(?, 0, 1)", w -> x.product(w, 0, 1)));
        edge(21, "BAD_INDEX", "the second one is no word", () -> dueNoWords("product(0, ?, 1)", w -> x.product(0, w, 1)));
        edge(21, "BAD_INDEX", "the result is no word", () -> dueNoWords("product(0, 1, ?)", w -> x.product(0, 1, w)));
        edge(21, "FULL if it would have more than 16 letters", "17 letters are too many, 16 are not", () -> {
            put(0, "a".repeat(9));
            put(1, B8);
            put(2, "c");
            due("product(0, 1, 2)", x.product(0, 1, 2), FULL);
            dueWord(2, "c");
            put(0, A8);
            due("product(0, 1, 2)", x.product(0, 1, 2), 16);
            dueWord(2, A8 + B8);
        });
        edge(21, "FULL if it would have more than 16 letters", "two full words", () -> {
            put(0, A16);
            due("product(0, 0, 0)", x.product(0, 0, 0), FULL);
            dueWord(0, A16);
        });
    }

    private static void quotient() {
        String makes = "what has to follow the first word so that the product is alike to the second one";
        edge(22, makes, "nothing has to follow a word that is alike to it", () -> {
            free("ab");
            put(0, A8 + B8);
            put(1, B8 + A8);
            put(2, "c");
            due("quotient(0, 1, 2)", x.quotient(0, 1, 2), 0);
            dueWord(2, "");
        });
        edge(22, makes, "all of it has to follow the empty word", () -> {
            free("ab");
            put(1, B8 + A8);
            due("quotient(0, 1, 2)", x.quotient(0, 1, 2), 16);
            dueWord(2, A8 + B8);
        });
        edge(22, makes, "both are empty", () -> {
            put(2, "c");
            due("quotient(0, 1, 2)", x.quotient(0, 1, 2), 0);
            dueWord(2, "");
        });
        edge(22, makes, "what follows can stand in front in the word as it is", () -> {
            free("ad");
            put(0, "d");
            put(1, "abcd".repeat(4));
            due("quotient(0, 1, 2)", x.quotient(0, 1, 2), NOT_POSSIBLE);
            put(1, "aaad");
            due("quotient(0, 1, 2)", x.quotient(0, 1, 2), 3);
            dueWord(2, "aaa");
        });
        edge(22, "first: a word", "the first and the last word", () -> {
            put(0, "a");
            put(1, "aaa");
            put(5, "aa");
            dueForWords("quotient(?, 1, 2)", w -> x.quotient(w, 1, 2), 2, 1);
        });
        edge(22, "second: a word", "the first and the last word, also the same one", () -> {
            put(0, "aa");
            put(1, "a");
            put(5, "aaa");
            dueForWords("quotient(1, ?, 2)", w -> x.quotient(1, w, 2), 1, 2);
            due("quotient(5, 5, 2)", x.quotient(5, 5, 2), 0);
        });
        edge(22, "result: the word that becomes the quotient", "the first and the last word", () -> {
            put(1, "a");
            put(2, "abc");
            dueForWords("quotient(1, 2, ?)", w -> x.quotient(1, 2, w), 2, 2);
            dueWord(0, "bc");
            dueWord(5, "bc");
        });
        edge(22, "result: the word that becomes the quotient", "the divisor, the dividend, and both", () -> {
            put(0, "ab");
            put(1, "abcdd");
            due("quotient(0, 1, 0)", x.quotient(0, 1, 0), 3);
            dueWord(0, "cdd");
            put(0, "abc");
            due("quotient(0, 1, 1)", x.quotient(0, 1, 1), 2);
            dueWord(1, "dd");
            due("quotient(1, 1, 1)", x.quotient(1, 1, 1), 0);
            dueWord(1, "");
        });
        edge(22, "Returns its length", "0 and 16", () -> {
            put(0, A16);
            due("quotient(0, 0, 2)", x.quotient(0, 0, 2), 0);
            due("quotient(1, 0, 2)", x.quotient(1, 0, 2), 16);
        });
        edge(22, "BAD_INDEX", "the first one is no word", () -> dueNoWords("quotient(?, 0, 1)", w -> x.quotient(w, 0, 1)));
        edge(22, "BAD_INDEX", "the second one is no word", () -> dueNoWords("quotient(0, ?, 1)", w -> x.quotient(0, w, 1)));
        edge(22, "BAD_INDEX", "the result is no word", () -> dueNoWords("quotient(0, 1, ?)", w -> x.quotient(0, 1, w)));
        edge(22, "NOT_POSSIBLE if the first one is no prefix of the second one", "the empty word has no other prefix", () -> {
            put(0, "a");
            put(2, "c");
            due("quotient(0, 1, 2)", x.quotient(0, 1, 2), NOT_POSSIBLE);
            dueWord(2, "c");
        });
        edge(22, "NOT_POSSIBLE if the first one is no prefix of the second one",
            "one letter too long, or the last letter differs", () -> {
            put(0, A16);
            put(1, "a".repeat(15));
            due("quotient(0, 1, 2)", x.quotient(0, 1, 2), NOT_POSSIBLE);
            put(1, "a".repeat(15) + "b");
            due("quotient(0, 1, 2)", x.quotient(0, 1, 2), NOT_POSSIBLE);
        });
        edge(22, "NOT_POSSIBLE if the first one is no prefix of the second one", "a factor that is no prefix", () -> {
            put(0, "b");
            put(1, "ab");
            due("quotient(0, 1, 1)", x.quotient(0, 1, 1), NOT_POSSIBLE);
            dueWord(1, "ab");
        });
    }

    private static void commonPrefix() {
        String makes = "Makes a word the greatest common prefix of two words.";
        edge(23, makes, "nothing is common", () -> {
            put(0, "ab");
            put(1, "ba");
            put(2, "c");
            due("commonPrefix(0, 1, 2)", x.commonPrefix(0, 1, 2), 0);
            dueWord(2, "");
        });
        edge(23, makes, "with the empty word it is empty", () -> {
            put(0, A16);
            put(2, "c");
            due("commonPrefix(0, 1, 2)", x.commonPrefix(0, 1, 2), 0);
            due("commonPrefix(1, 0, 2)", x.commonPrefix(1, 0, 2), 0);
            due("commonPrefix(1, 3, 2)", x.commonPrefix(1, 3, 2), 0);
            dueWord(2, "");
        });
        edge(23, makes, "two full words that are alike have all in common", () -> {
            free("ab");
            put(0, B8 + A8);
            put(1, A8 + B8);
            due("commonPrefix(0, 1, 2)", x.commonPrefix(0, 1, 2), 16);
            dueWord(2, A8 + B8);
        });
        edge(23, makes, "one is a prefix of the other one", () -> {
            put(0, "a".repeat(15));
            put(1, A16);
            due("commonPrefix(0, 1, 2)", x.commonPrefix(0, 1, 2), 15);
            due("commonPrefix(1, 0, 2)", x.commonPrefix(1, 0, 2), 15);
        });
        edge(23, makes, "a common letter counts only if it can go to the front", () -> {
            free("ac");
            put(0, "acb");
            put(1, "bc");
            due("commonPrefix(0, 1, 2)", x.commonPrefix(0, 1, 2), 0);
            put(1, "ca");
            due("commonPrefix(0, 1, 2)", x.commonPrefix(0, 1, 2), 2);
            dueWord(2, "ac");
        });
        edge(23, "first: a word", "the first and the last word", () -> {
            put(0, "a");
            put(1, "aaa");
            put(5, "aa");
            dueForWords("commonPrefix(?, 1, 2)", w -> x.commonPrefix(w, 1, 2), 1, 2);
        });
        edge(23, "second: a word", "the first and the last word, also the same one", () -> {
            put(0, "a");
            put(1, "aaa");
            put(5, "aa");
            dueForWords("commonPrefix(1, ?, 2)", w -> x.commonPrefix(1, w, 2), 1, 2);
            due("commonPrefix(1, 1, 2)", x.commonPrefix(1, 1, 2), 3);
        });
        edge(23, "result: the word that becomes it", "the first and the last word", () -> {
            put(1, "ab");
            put(2, "ac");
            dueForWords("commonPrefix(1, 2, ?)", w -> x.commonPrefix(1, 2, w), 1, 1);
            dueWord(0, "a");
            dueWord(5, "a");
        });
        edge(23, "result: the word that becomes it", "one of the two words, or both", () -> {
            free("ab");
            put(0, "bac");
            put(1, "abd");
            due("commonPrefix(0, 1, 0)", x.commonPrefix(0, 1, 0), 2);
            dueWord(0, "ab");
            put(0, "bac");
            due("commonPrefix(0, 1, 1)", x.commonPrefix(0, 1, 1), 2);
            dueWord(1, "ab");
            due("commonPrefix(0, 0, 0)", x.commonPrefix(0, 0, 0), 3);
            dueWord(0, "abc");
        });
        edge(23, "Returns its length", "0 and 16", () -> {
            put(0, A16);
            due("commonPrefix(0, 1, 2)", x.commonPrefix(0, 1, 2), 0);
            due("commonPrefix(0, 0, 2)", x.commonPrefix(0, 0, 2), 16);
        });
        edge(23, "BAD_INDEX", "the first one is no word", () ->
            dueNoWords("commonPrefix(?, 0, 1)", w -> x.commonPrefix(w, 0, 1)));
        edge(23, "BAD_INDEX", "the second one is no word", () ->
            dueNoWords("commonPrefix(0, ?, 1)", w -> x.commonPrefix(0, w, 1)));
        edge(23, "BAD_INDEX", "the result is no word", () -> dueNoWords("commonPrefix(0, 1, ?)", w -> x.commonPrefix(0, 1, w)));
    }

    private static void commonMultiple() {
        String makes = "Makes a word the least common multiple of two words.";
        edge(24, makes, "of two empty words it is empty", () -> {
            put(2, "c");
            due("commonMultiple(0, 1, 2)", x.commonMultiple(0, 1, 2), 0);
            dueWord(2, "");
        });
        edge(24, makes, "with an empty word it is the other one, also if that is full", () -> {
            put(0, A16);
            due("commonMultiple(0, 1, 2)", x.commonMultiple(0, 1, 2), 16);
            dueWord(2, A16);
            due("commonMultiple(1, 0, 3)", x.commonMultiple(1, 0, 3), 16);
            dueWord(3, A16);
        });
        edge(24, makes, "of a word and its prefix it is the word", () -> {
            put(0, "ab");
            put(1, "abdc");
            due("commonMultiple(0, 1, 2)", x.commonMultiple(0, 1, 2), 4);
            dueWord(2, "abdc");
            due("commonMultiple(1, 0, 3)", x.commonMultiple(1, 0, 3), 4);
            dueWord(3, "abdc");
        });
        edge(24, makes, "of two full words that are alike it is as long as they are", () -> {
            free("ab");
            put(0, B8 + A8);
            put(1, A8 + B8);
            due("commonMultiple(0, 1, 2)", x.commonMultiple(0, 1, 2), 16);
            dueWord(2, A8 + B8);
        });
        edge(24, makes, "what both begin with is there once", () -> {
            free("ab");
            put(0, "cb");
            put(1, "caa");
            due("commonMultiple(0, 1, 2)", x.commonMultiple(0, 1, 2), 4);
            dueWord(2, "caab");
        });
        edge(24, "first: a word", "the first and the last word", () -> {
            put(0, "a");
            put(5, "aa");
            dueForWords("commonMultiple(?, 1, 2)", w -> x.commonMultiple(w, 1, 2), 1, 2);
        });
        edge(24, "second: a word", "the first and the last word, also the same one", () -> {
            put(0, "a");
            put(5, "aa");
            dueForWords("commonMultiple(1, ?, 2)", w -> x.commonMultiple(1, w, 2), 1, 2);
            due("commonMultiple(5, 5, 2)", x.commonMultiple(5, 5, 2), 2);
        });
        edge(24, "result: the word that becomes it", "the first and the last word", () -> {
            free("ab");
            put(1, "b");
            put(2, "a");
            dueForWords("commonMultiple(1, 2, ?)", w -> x.commonMultiple(1, 2, w), 2, 2);
            dueWord(0, "ab");
            dueWord(5, "ab");
        });
        edge(24, "result: the word that becomes it", "one of the two words, or both", () -> {
            free("ab");
            put(0, "b");
            put(1, "a");
            due("commonMultiple(0, 1, 0)", x.commonMultiple(0, 1, 0), 2);
            dueWord(0, "ab");
            put(0, "bb");
            due("commonMultiple(0, 1, 1)", x.commonMultiple(0, 1, 1), 3);
            dueWord(1, "abb");
            put(1, "ba");
            due("commonMultiple(1, 1, 1)", x.commonMultiple(1, 1, 1), 2);
            dueWord(1, "ab");
        });
        edge(24, "Returns its length", "0 and 16", () -> {
            free("ab");
            due("commonMultiple(0, 1, 2)", x.commonMultiple(0, 1, 2), 0);
            put(0, A8);
            put(1, B8);
            due("commonMultiple(0, 1, 2)", x.commonMultiple(0, 1, 2), 16);
            dueWord(2, A8 + B8);
        });
        edge(24, "BAD_INDEX", "the first one is no word", () ->
            dueNoWords("commonMultiple(?, 0, 1)", w -> x.commonMultiple(w, 0, 1)));
        edge(24, "BAD_INDEX", "the second one is no word", () ->
            dueNoWords("commonMultiple(0, ?, 1)", w -> x.commonMultiple(0, w, 1)));
        edge(24, "BAD_INDEX", "the result is no word", () ->
            dueNoWords("commonMultiple(0, 1, ?)", w -> x.commonMultiple(0, 1, w)));
        edge(24, "NOT_POSSIBLE if there is no common multiple", "two dependent letters, also after a common prefix", () -> {
            put(0, "a");
            put(1, "b");
            put(2, "c");
            due("commonMultiple(0, 1, 2)", x.commonMultiple(0, 1, 2), NOT_POSSIBLE);
            put(0, "da");
            put(1, "db");
            due("commonMultiple(0, 1, 2)", x.commonMultiple(0, 1, 2), NOT_POSSIBLE);
            dueWord(2, "c");
        });
        edge(24, "NOT_POSSIBLE if there is no common multiple", "only the last letters are dependent", () -> {
            free("ac ad bc");
            put(0, "ab");
            put(1, "cd");
            due("commonMultiple(0, 1, 2)", x.commonMultiple(0, 1, 2), NOT_POSSIBLE);
            free("bd");
            due("commonMultiple(0, 1, 2)", x.commonMultiple(0, 1, 2), 4);
        });
        edge(24, "NOT_POSSIBLE if there is no common multiple", "only the first letters are dependent", () -> {
            free("ad bc bd");
            put(0, "ab");
            put(1, "cd");
            due("commonMultiple(0, 1, 2)", x.commonMultiple(0, 1, 2), NOT_POSSIBLE);
        });
        edge(24, "FULL if it would have more than 16 letters", "17 letters are too many, 16 are not", () -> {
            free("ab");
            put(0, "a".repeat(9));
            put(1, B8);
            put(2, "c");
            due("commonMultiple(0, 1, 2)", x.commonMultiple(0, 1, 2), FULL);
            dueWord(2, "c");
            put(1, "b".repeat(7));
            due("commonMultiple(0, 1, 2)", x.commonMultiple(0, 1, 2), 16);
        });
        edge(24, "FULL if it would have more than 16 letters", "two full words with 15 letters in common", () -> {
            free("ab");
            put(0, "c".repeat(15) + "a");
            put(1, "c".repeat(15) + "b");
            due("commonMultiple(0, 1, 2)", x.commonMultiple(0, 1, 2), FULL);
            put(0, "c".repeat(14) + "a");
            put(1, "c".repeat(14) + "b");
            due("commonMultiple(0, 1, 2)", x.commonMultiple(0, 1, 2), 16);
        });
    }

    private static void root() {
        edge(25, "Makes a word the root of a word.", "of sixteen equal letters it is one letter", () -> {
            put(0, "d".repeat(16));
            due("root(0, 1)", x.root(0, 1), 1);
            dueWord(1, "d");
            dueWord(0, "d".repeat(16));
        });
        edge(25, "Makes a word the root of a word.", "of a full word that is no power it is the normal form", () -> {
            free("ab");
            put(0, "b" + "a".repeat(14) + "d");
            due("root(0, 1)", x.root(0, 1), 16);
            dueWord(1, "a".repeat(14) + "bd");
        });
        edge(25, "Makes a word the root of a word.", "of a single letter it is the letter", () -> {
            put(0, "c");
            due("root(0, 1)", x.root(0, 1), 1);
            dueWord(1, "c");
        });
        edge(25, "word: a word", "the first and the last word", () -> {
            put(0, "aa");
            put(5, "baba");
            dueForWords("root(?, 1)", w -> x.root(w, 1), 1, 2);
        });
        edge(25, "result: the word that becomes the root", "the first and the last word", () -> {
            put(1, "baba");
            dueForWords("root(1, ?)", w -> x.root(1, w), 2, 2);
            dueWord(0, "ba");
            dueWord(5, "ba");
        });
        edge(25, "result: the word that becomes the root", "the word itself, in normal form", () -> {
            free("ab");
            put(0, B8 + A8);
            due("root(0, 0)", x.root(0, 0), 2);
            dueWord(0, "ab");
        });
        edge(25, "Returns its length", "1 and 16", () -> {
            put(0, A16);
            put(1, "a".repeat(15) + "b");
            due("root(0, 2)", x.root(0, 2), 1);
            due("root(1, 2)", x.root(1, 2), 16);
        });
        edge(25, "BAD_INDEX", "the first one is no word", () -> dueNoWords("root(?, 0)", w -> x.root(w, 0)));
        edge(25, "BAD_INDEX", "the result is no word", () -> {
            put(0, "a");
            dueNoWords("root(0, ?)", w -> x.root(0, w));
        });
        edge(25, "NOT_POSSIBLE if the first one is empty", "whatever the result is", () -> {
            put(1, "ab");
            due("root(0, 1)", x.root(0, 1), NOT_POSSIBLE);
            dueWord(1, "ab");
            due("root(0, 0)", x.root(0, 0), NOT_POSSIBLE);
        });
    }

    private static void reverse() {
        String makes = "Makes a word the reverse of a word (the normal form of its letters in the opposite order).";
        edge(26, makes, "the reverse of the empty word is empty", () -> {
            put(1, "ab");
            due("reverse(0, 1)", x.reverse(0, 1), 0);
            dueWord(1, "");
        });
        edge(26, makes, "a single letter, and a full word", () -> {
            put(0, "d");
            due("reverse(0, 1)", x.reverse(0, 1), 1);
            dueWord(1, "d");
            put(0, "abcd" + "a".repeat(11) + "b");
            due("reverse(0, 1)", x.reverse(0, 1), 16);
            dueWord(1, "b" + "a".repeat(11) + "dcba");
        });
        edge(26, makes, "a full word with independent letters is in normal form again", () -> {
            free("ab");
            put(0, A8 + B8);
            due("reverse(0, 1)", x.reverse(0, 1), 16);
            dueWord(1, A8 + B8);
        });
        edge(26, "word: a word", "the first and the last word", () -> {
            put(0, "a");
            put(5, "ab");
            dueForWords("reverse(?, 1)", w -> x.reverse(w, 1), 1, 2);
        });
        edge(26, "result: the word that becomes it", "the first and the last word", () -> {
            put(1, "ab");
            dueForWords("reverse(1, ?)", w -> x.reverse(1, w), 2, 2);
            dueWord(0, "ba");
            dueWord(5, "ba");
        });
        edge(26, "result: the word that becomes it", "the word itself", () -> {
            put(0, "abcd".repeat(4));
            due("reverse(0, 0)", x.reverse(0, 0), 16);
            dueWord(0, "dcba".repeat(4));
        });
        edge(26, "Returns its length", "0 and 16", () -> {
            put(0, A16);
            due("reverse(0, 1)", x.reverse(0, 1), 16);
            due("reverse(2, 1)", x.reverse(2, 1), 0);
        });
        edge(26, "BAD_INDEX", "the first one is no word", () -> dueNoWords("reverse(?, 0)", w -> x.reverse(w, 0)));
        edge(26, "BAD_INDEX", "the result is no word", () -> dueNoWords("reverse(0, ?)", w -> x.reverse(0, w)));
    }
}
