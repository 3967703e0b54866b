/** The boundary cases of promises 6 to 20, a test for each sentence that names one. */
public final class WordsBoundaryTest extends Boundaries {
    private static final String ALL_FOUR = "ab ac ad bc bd cd";
    private static final String A8B8 = "aaaaaaaabbbbbbbb";
    private static final String B8A8 = "bbbbbbbbaaaaaaaa";

    public static void main(String[] args) {
        add();
        clear();
        length();
        letter();
        normal();
        layers();
        layer();
        projected();
        alikeWords();
        alike();
        commute();
        connected();
        isPrefix();
        isFactor();
        exponent();
        finish(6, 20);
    }

    private static void add() {
        edge(6, "Adds a letter at the end of a word.", "to the empty word", () -> {
            x.add(0, 3);
            dueWord(0, "d");
        });
        edge(6, "Adds a letter at the end of a word.", "as the sixteenth letter, though it could stand first", () -> {
            free("ad");
            put(0, "d".repeat(15));
            x.add(0, 0);
            dueWord(0, "d".repeat(15) + "a");
        });
        edge(6, "Adds a letter at the end of a word.", "to no other word", () -> {
            x.add(5, 1);
            for (int word = 0; word < 5; word++) {
                due("length(" + word + ")", x.length(word), 0);
            }
        });
        edge(6, "word: a word", "the first and the last word", () -> dueForWords("add(?, 2)", w -> x.add(w, 2), 1, 1));
        edge(6, "letter: a letter", "the first and the last letter, of two, four and six", () -> {
            for (int letters = 2; letters <= 6; letters += 2) {
                x.setLetters(letters);
                due("add(0, 0)", x.add(0, 0), 1);
                due("add(0, " + (letters - 1) + ")", x.add(0, letters - 1), 2);
            }
        });
        edge(6, "Returns the length of the word then", "from 1 to 16", () -> {
            for (int length = 1; length <= 16; length++) {
                due("add(0, 0)", x.add(0, 0), length);
            }
        });
        edge(6, "BAD_INDEX", "no such word", () -> dueNoWords("add(?, 0)", w -> x.add(w, 0)));
        edge(6, "BAD_INDEX", "no such letter of four", () -> dueOutside(0, 3, "add(0, ?)", l -> x.add(0, l), BAD_INDEX));
        edge(6, "BAD_INDEX", "no such letter of two and of six", () -> {
            x.setLetters(2);
            due("add(0, 2)", x.add(0, 2), BAD_INDEX);
            x.setLetters(6);
            due("add(0, 6)", x.add(0, 6), BAD_INDEX);
        });
        edge(6, "FULL if it has 16 letters", "a seventeenth letter has no room", () -> {
            put(0, A16);
            due("add(0, 0)", x.add(0, 0), FULL);
            dueWord(0, A16);
        });
        edge(6, "FULL if it has 16 letters", "with 15 letters there is room, and in another word there is room", () -> {
            put(0, A16);
            put(1, "a".repeat(15));
            due("add(1, 0)", x.add(1, 0), 16);
            due("add(2, 0)", x.add(2, 0), 1);
        });
        edge(6, "FULL if it has 16 letters", "there is room again in a word that has been emptied", () -> {
            put(0, A16);
            x.clear(0);
            due("add(0, 1)", x.add(0, 1), 1);
            dueWord(0, "b");
        });
    }

    private static void clear() {
        edge(7, "Empties a word.", "a full word, and no other one", () -> {
            put(4, "ab");
            put(5, A16);
            x.clear(5);
            dueWord(5, "");
            due("letter(5, 0)", x.letter(5, 0), NONE);
            dueWord(4, "ab");
        });
        edge(7, "Empties a word.", "a word that is empty stays so", () -> {
            x.clear(0);
            dueWord(0, "");
        });
        edge(7, "word: a word", "the first and the last word", () -> {
            put(0, "a");
            put(5, "ab");
            dueForWords("clear(?)", w -> x.clear(w), 1, 2);
        });
        edge(7, "Returns the length that it had", "0 and 16", () -> {
            due("clear(1)", x.clear(1), 0);
            put(1, A16);
            due("clear(1)", x.clear(1), 16);
            due("clear(1)", x.clear(1), 0);
        });
        edge(7, "BAD_INDEX", "no such word", () -> dueNoWords("clear(?)", w -> x.clear(w)));
    }

    private static void length() {
        edge(8, "word: a word", "the first and the last word", () -> {
            put(0, "a");
            put(5, "ab");
            dueForWords("length(?)", w -> x.length(w), 1, 2);
        });
        edge(8, "Returns its length", "0 and 16", () -> {
            put(5, A16);
            due("length(4)", x.length(4), 0);
            due("length(5)", x.length(5), 16);
        });
        edge(8, "BAD_INDEX", "no such word", () -> dueNoWords("length(?)", w -> x.length(w)));
    }

    private static void letter() {
        edge(9, "word: a word", "the first and the last word", () -> {
            put(0, "c");
            put(5, "d");
            dueForWords("letter(?, 0)", w -> x.letter(w, 0), 2, 3);
        });
        edge(9, "index: the index of a letter, counted from 0", "the first and the last one of a full word", () -> {
            put(0, "b" + "a".repeat(14) + "d");
            due("letter(0, 0)", x.letter(0, 0), 1);
            due("letter(0, 1)", x.letter(0, 1), 0);
            due("letter(0, 14)", x.letter(0, 14), 0);
            due("letter(0, 15)", x.letter(0, 15), 3);
        });
        edge(9, "Returns the letter of the word as it is", "not that of its normal form", () -> {
            free("ad");
            put(0, "da");
            dueWord(0, "da");
        });
        edge(9, "Returns the letter of the word as it is", "the first letter is 0, the last one of six is 5", () -> {
            x.setLetters(6);
            put(0, "af");
            due("letter(0, 0)", x.letter(0, 0), 0);
            due("letter(0, 1)", x.letter(0, 1), 5);
        });
        edge(9, "BAD_INDEX if there is no such word", "below 0 and above 5", () ->
            dueNoWords("letter(?, 0)", w -> x.letter(w, 0)));
        edge(9, "NONE if there is no such index", "in the empty word", () -> due("letter(0, 0)", x.letter(0, 0), NONE));
        edge(9, "NONE if there is no such index", "the length of the word", () -> {
            put(0, "ab");
            due("letter(0, 2)", x.letter(0, 2), NONE);
            put(0, A16);
            due("letter(0, 16)", x.letter(0, 16), NONE);
        });
        edge(9, "NONE if there is no such index", "below 0 and far outside", () -> {
            put(0, A16);
            dueOutside(0, 15, "letter(0, ?)", i -> x.letter(0, i), NONE);
        });
        edge(9, "NONE if there is no such index", "where a longer word had a letter", () -> {
            put(0, A16);
            put(0, "b");
            due("letter(0, 1)", x.letter(0, 1), NONE);
            due("letter(0, 15)", x.letter(0, 15), NONE);
        });
    }

    private static void normal() {
        edge(10, "word: a word", "the first and the last word", () -> {
            put(0, "c");
            put(5, "d");
            dueForWords("normal(?, 0)", w -> x.normal(w, 0), 2, 3);
        });
        edge(10, "index: the index of a letter, counted from 0", "the first and the last one of a full word", () -> {
            free("ab");
            put(0, "b".repeat(15) + "a");
            due("normal(0, 0)", x.normal(0, 0), 0);
            due("normal(0, 1)", x.normal(0, 1), 1);
            due("normal(0, 15)", x.normal(0, 15), 1);
        });
        edge(10, "Returns the letter of its normal form", "a full word with all letters independent is sorted", () -> {
            free(ALL_FOUR);
            put(0, "dcba".repeat(4));
            dueNormal(0, "aaaabbbbccccdddd");
        });
        edge(10, "Returns the letter of its normal form", "a full word with no letters independent stays", () -> {
            put(0, "dcba".repeat(4));
            dueNormal(0, "dcba".repeat(4));
        });
        edge(10, "Returns the letter of its normal form", "the word itself does not become it", () -> {
            free("ab");
            put(0, "ba");
            due("normal(0, 0)", x.normal(0, 0), 0);
            dueWord(0, "ba");
        });
        edge(10, "BAD_INDEX if there is no such word", "below 0 and above 5", () ->
            dueNoWords("normal(?, 0)", w -> x.normal(w, 0)));
        edge(10, "NONE if there is no such index", "in the empty word", () -> due("normal(0, 0)", x.normal(0, 0), NONE));
        edge(10, "NONE if there is no such index", "the length of the word", () -> {
            put(1, A16);
            put(0, "ab");
            due("normal(1, 16)", x.normal(1, 16), NONE);
            due("normal(0, 2)", x.normal(0, 2), NONE);
        });
        edge(10, "NONE if there is no such index", "below 0 and far outside", () -> {
            put(0, A16);
            dueOutside(0, 15, "normal(0, ?)", i -> x.normal(0, i), NONE);
        });
    }

    private static void layers() {
        edge(11, "word: a word", "the first and the last word", () -> {
            put(0, "ab");
            put(5, "abc");
            dueForWords("layers(?)", w -> x.layers(w), 2, 3);
        });
        edge(11, "Returns the number of its layers", "the empty word has none", () -> due("layers(0)", x.layers(0), 0));
        edge(11, "Returns the number of its layers", "one, if all letters of six are independent", () -> {
            letters(6, ALL_SIX);
            put(0, "fedcba");
            due("layers(0)", x.layers(0), 1);
        });
        edge(11, "Returns the number of its layers",
            "sixteen, if one letter stands 16 times or no letters are independent", () -> {
            put(0, A16);
            put(1, "abcd".repeat(4));
            due("layers(0)", x.layers(0), 16);
            due("layers(1)", x.layers(1), 16);
        });
        edge(11, "BAD_INDEX", "no such word", () -> dueNoWords("layers(?)", w -> x.layers(w)));
    }

    private static void layer() {
        edge(12, "word: a word", "the first and the last word", () -> {
            put(0, "c");
            put(5, "d");
            dueForWords("layer(?, 0)", w -> x.layer(w, 0), 4, 8);
        });
        edge(12, "layer: the number of a layer", "the first and the last one of sixteen", () -> {
            put(0, "b" + "a".repeat(14) + "d");
            due("layer(0, 0)", x.layer(0, 0), 2);
            due("layer(0, 14)", x.layer(0, 14), 1);
            due("layer(0, 15)", x.layer(0, 15), 8);
        });
        edge(12, "Returns the set of its letters, bit i for the letter i", "all of six letters", () -> {
            letters(6, ALL_SIX);
            put(0, "fedcba");
            due("layer(0, 0)", x.layer(0, 0), 63);
        });
        edge(12, "Returns the set of its letters, bit i for the letter i",
            "the last letter of the word is in the first layer", () -> {
            free("ad");
            put(0, "a".repeat(15) + "d");
            due("layer(0, 0)", x.layer(0, 0), 9);
            due("layer(0, 1)", x.layer(0, 1), 1);
        });
        edge(12, "BAD_INDEX if there is no such word", "below 0 and above 5", () ->
            dueNoWords("layer(?, 0)", w -> x.layer(w, 0)));
        edge(12, "NONE if there is no such layer", "in the empty word", () -> due("layer(0, 0)", x.layer(0, 0), NONE));
        edge(12, "NONE if there is no such layer", "the number of layers, fewer than the word has letters", () -> {
            free("ab");
            put(0, "ab");
            due("layer(0, 1)", x.layer(0, 1), NONE);
        });
        edge(12, "NONE if there is no such layer", "the sixteenth layer is the last one", () -> {
            put(0, A16);
            due("layer(0, 16)", x.layer(0, 16), NONE);
        });
        edge(12, "NONE if there is no such layer", "below 0 and far outside", () -> {
            put(0, A16);
            dueOutside(0, 15, "layer(0, ?)", i -> x.layer(0, i), NONE);
        });
    }

    private static void projected() {
        edge(13, "word: a word", "the first and the last word", () -> {
            put(0, "c");
            put(5, "d");
            dueForWords("projected(?, 2, 3, 0)", w -> x.projected(w, 2, 3, 0), 2, 3);
        });
        edge(13, "letter: a letter", "the first and the last letter", () -> {
            put(0, "abcd");
            due("projected(0, 0, 1, 0)", x.projected(0, 0, 1, 0), 0);
            due("projected(0, 3, 1, 1)", x.projected(0, 3, 1, 1), 3);
        });
        edge(13, "other: a letter, which may be the same", "then only this letter remains", () -> {
            put(0, "abba");
            due("projected(0, 1, 1, 0)", x.projected(0, 1, 1, 0), 1);
            due("projected(0, 1, 1, 1)", x.projected(0, 1, 1, 1), 1);
            due("projected(0, 1, 1, 2)", x.projected(0, 1, 1, 2), NONE);
        });
        edge(13, "other: a letter, which may be the same", "the first and the last letter", () -> {
            put(0, "abcd");
            due("projected(0, 1, 0, 0)", x.projected(0, 1, 0, 0), 0);
            due("projected(0, 1, 3, 1)", x.projected(0, 1, 3, 1), 3);
        });
        edge(13, "index: the index of a letter of the projection to both, counted from 0",
            "the first and the last of sixteen", () -> {
            put(0, "b" + "a".repeat(14) + "b");
            due("projected(0, 0, 1, 0)", x.projected(0, 0, 1, 0), 1);
            due("projected(0, 0, 1, 1)", x.projected(0, 0, 1, 1), 0);
            due("projected(0, 0, 1, 15)", x.projected(0, 0, 1, 15), 1);
        });
        edge(13, "Returns this letter", "in the order of the word, whatever the order of the two", () -> {
            String rest = "daad";
            put(0, "cdabacdc");
            for (int i = 0; i < 4; i++) {
                due("projected(0, 0, 3, " + i + ")", x.projected(0, 0, 3, i), rest.charAt(i) - 'a');
                due("projected(0, 3, 0, " + i + ")", x.projected(0, 3, 0, i), rest.charAt(i) - 'a');
            }
        });
        edge(13, "BAD_INDEX if there is no such word or letter", "no such word", () ->
            dueNoWords("projected(?, 0, 1, 0)", w -> x.projected(w, 0, 1, 0)));
        edge(13, "BAD_INDEX if there is no such word or letter", "the first one is no letter", () ->
            dueOutside(0, 3, "projected(0, ?, 1, 0)", l -> x.projected(0, l, 1, 0), BAD_INDEX));
        edge(13, "BAD_INDEX if there is no such word or letter", "the second one is no letter", () ->
            dueOutside(0, 3, "projected(0, 1, ?, 0)", l -> x.projected(0, 1, l, 0), BAD_INDEX));
        edge(13, "NONE if there is no such index", "nothing remains", () -> {
            due("projected(0, 0, 1, 0)", x.projected(0, 0, 1, 0), NONE);
            put(0, "ccdd");
            due("projected(0, 0, 1, 0)", x.projected(0, 0, 1, 0), NONE);
        });
        edge(13, "NONE if there is no such index", "the length of the projection, which is shorter than the word", () -> {
            put(0, "acbd");
            due("projected(0, 0, 1, 1)", x.projected(0, 0, 1, 1), 1);
            due("projected(0, 0, 1, 2)", x.projected(0, 0, 1, 2), NONE);
        });
        edge(13, "NONE if there is no such index", "below 0 and far outside", () -> {
            put(0, A16);
            dueOutside(0, 15, "projected(0, 0, 1, ?)", i -> x.projected(0, 0, 1, i), NONE);
        });
    }

    private static void alikeWords() {
        edge(14, "word: a word", "the first and the last word", () -> {
            free("ab");
            put(0, "ab");
            put(5, "aab");
            dueForWords("alikeWords(?)", w -> x.alikeWords(w), 2, 3);
        });
        edge(14, "(itself is one)", "the empty word is alike to itself alone", () -> {
            letters(6, ALL_SIX);
            due("alikeWords(0)", x.alikeWords(0), 1);
        });
        edge(14, "(itself is one)", "a full word of one letter, or of dependent letters", () -> {
            put(0, A16);
            put(1, "abcd".repeat(4));
            due("alikeWords(0)", x.alikeWords(0), 1);
            due("alikeWords(1)", x.alikeWords(1), 1);
        });
        edge(14, "Returns the number of words that are alike to it", "the greatest of all numbers, which no int holds", () -> {
            letters(6, ALL_SIX);
            put(0, "aaabbbcccdddeeff");
            due("alikeWords(0)", x.alikeWords(0), 4036032000L);
        });
        edge(14, "Returns the number of words that are alike to it", "equal letters are not counted twice", () -> {
            free("ab");
            put(0, A8B8);
            due("alikeWords(0)", x.alikeWords(0), 12870);
        });
        edge(14, "BAD_INDEX", "no such word", () -> dueNoWords("alikeWords(?)", w -> x.alikeWords(w)));
    }

    private static void alike() {
        edge(15, "word: a word", "the first and the last word", () -> {
            put(0, "ab");
            put(3, "ab");
            dueForWords("alike(?, 3)", w -> x.alike(w, 3), 1, 0);
        });
        edge(15, "other: a word", "the first and the last word, also the same one", () -> {
            put(0, "ab");
            put(3, "ab");
            dueForWords("alike(3, ?)", w -> x.alike(3, w), 1, 0);
            due("alike(3, 3)", x.alike(3, 3), 1);
        });
        edge(15, "Returns 1 if both are alike, 0 if not", "two empty words, an empty word and a letter", () -> {
            due("alike(0, 1)", x.alike(0, 1), 1);
            put(0, "a");
            due("alike(0, 1)", x.alike(0, 1), 0);
            due("alike(1, 0)", x.alike(1, 0), 0);
        });
        edge(15, "Returns 1 if both are alike, 0 if not", "full words, all of whose letters have to be exchanged", () -> {
            put(0, A8B8);
            put(1, B8A8);
            due("alike(0, 1)", x.alike(0, 1), 0);
            free("ab");
            due("alike(0, 1)", x.alike(0, 1), 1);
        });
        edge(15, "Returns 1 if both are alike, 0 if not", "one letter more, in the one or the other", () -> {
            put(0, "abc");
            put(1, "abcc");
            due("alike(0, 1)", x.alike(0, 1), 0);
            due("alike(1, 0)", x.alike(1, 0), 0);
        });
        edge(15, "Returns 1 if both are alike, 0 if not", "full words that differ in the last letter alone", () -> {
            put(0, "a".repeat(15) + "b");
            put(1, A16);
            due("alike(0, 1)", x.alike(0, 1), 0);
        });
        edge(15, "BAD_INDEX", "the first one is no word", () -> dueNoWords("alike(?, 0)", w -> x.alike(w, 0)));
        edge(15, "BAD_INDEX", "the second one is no word", () -> dueNoWords("alike(0, ?)", w -> x.alike(0, w)));
    }

    private static void commute() {
        String answer = "Returns 1 if the products of both, in both orders, are alike, 0 if not";
        edge(16, "word: a word", "the first and the last word", () -> {
            put(0, "b");
            put(3, "a");
            put(5, "a");
            dueForWords("commute(?, 3)", w -> x.commute(w, 3), 0, 1);
        });
        edge(16, "other: a word", "the first and the last word, also the same one", () -> {
            put(0, "b");
            put(3, "ab");
            put(5, "ab");
            dueForWords("commute(3, ?)", w -> x.commute(3, w), 0, 1);
            due("commute(3, 3)", x.commute(3, 3), 1);
        });
        edge(16, answer, "the empty word commutes with each one, also with the empty one and with a full one", () -> {
            put(1, A16);
            due("commute(0, 0)", x.commute(0, 0), 1);
            due("commute(0, 2)", x.commute(0, 2), 1);
            due("commute(0, 1)", x.commute(0, 1), 1);
            due("commute(1, 0)", x.commute(1, 0), 1);
        });
        edge(16, answer, "two full words, whose product no word could hold", () -> {
            put(0, A16);
            put(1, "b".repeat(16));
            due("commute(0, 1)", x.commute(0, 1), 0);
            free("ab");
            due("commute(0, 1)", x.commute(0, 1), 1);
            put(1, "b".repeat(15) + "c");
            due("commute(0, 1)", x.commute(0, 1), 0);
            due("commute(1, 1)", x.commute(1, 1), 1);
        });
        edge(16, answer, "powers of one word, though their letters are dependent", () -> {
            put(0, "ab");
            put(1, "ababab");
            put(2, "aba");
            due("commute(0, 1)", x.commute(0, 1), 1);
            due("commute(0, 2)", x.commute(0, 2), 0);
        });
        edge(16, "BAD_INDEX", "the first one is no word", () -> dueNoWords("commute(?, 0)", w -> x.commute(w, 0)));
        edge(16, "BAD_INDEX", "the second one is no word", () -> dueNoWords("commute(0, ?)", w -> x.commute(0, w)));
    }

    private static void connected() {
        edge(17, "word: a word", "the first and the last word", () -> {
            free("ab");
            put(0, "ab");
            put(5, "a");
            dueForWords("connected(?)", w -> x.connected(w), 0, 1);
        });
        edge(17, "Returns 1 if it is connected, 0 if not", "the empty word, and a word of one letter, often", () -> {
            letters(6, ALL_SIX);
            put(1, "f");
            put(2, A16);
            due("connected(0)", x.connected(0), 1);
            due("connected(1)", x.connected(1), 1);
            due("connected(2)", x.connected(2), 1);
        });
        edge(17, "Returns 1 if it is connected, 0 if not", "six letters in a chain, from the first to the last one", () -> {
            letters(6, "ac ad ae af bd be bf ce cf df");
            put(0, "fedcba");
            due("connected(0)", x.connected(0), 1);
            x.setIndependent(2, 3, true);
            due("connected(0)", x.connected(0), 0);
        });
        edge(17, "Returns 1 if it is connected, 0 if not", "it does not matter how often a letter occurs", () -> {
            free("ac");
            put(0, "a".repeat(14) + "cc");
            put(1, "a".repeat(15) + "c");
            put(2, "aabbcc");
            due("connected(0)", x.connected(0), 0);
            due("connected(1)", x.connected(1), 0);
            due("connected(2)", x.connected(2), 1);
        });
        edge(17, "Returns 1 if it is connected, 0 if not", "letters that do not occur connect nothing", () -> {
            free("ac");
            put(0, "ac");
            put(1, "acb");
            due("connected(0)", x.connected(0), 0);
            due("connected(1)", x.connected(1), 1);
        });
        edge(17, "BAD_INDEX", "no such word", () -> dueNoWords("connected(?)", w -> x.connected(w)));
    }

    private static void isPrefix() {
        String answer = "Returns 1 if the first one is a prefix of the second one, 0 if not";
        edge(18, "word: a word", "the first and the last word", () -> {
            put(0, "a");
            put(3, "ab");
            put(5, "b");
            dueForWords("isPrefix(?, 3)", w -> x.isPrefix(w, 3), 1, 0);
        });
        edge(18, "other: a word", "the first and the last word, also the same one", () -> {
            put(0, "ab");
            put(3, "a");
            put(5, "ba");
            dueForWords("isPrefix(3, ?)", w -> x.isPrefix(3, w), 1, 0);
            due("isPrefix(3, 3)", x.isPrefix(3, 3), 1);
        });
        edge(18, answer, "the empty word is a prefix of each one, of the empty one too", () -> {
            put(1, A16);
            due("isPrefix(0, 0)", x.isPrefix(0, 0), 1);
            due("isPrefix(0, 2)", x.isPrefix(0, 2), 1);
            due("isPrefix(0, 1)", x.isPrefix(0, 1), 1);
        });
        edge(18, answer, "no word that is not empty is a prefix of the empty one", () -> {
            put(1, "a");
            due("isPrefix(1, 0)", x.isPrefix(1, 0), 0);
        });
        edge(18, answer, "a full word is a prefix of each full one that is alike to it", () -> {
            put(0, A8B8);
            put(1, B8A8);
            due("isPrefix(0, 1)", x.isPrefix(0, 1), 0);
            free("ab");
            due("isPrefix(0, 1)", x.isPrefix(0, 1), 1);
        });
        edge(18, answer, "a longer word is no prefix of a shorter one", () -> {
            put(0, "ab");
            put(1, "aba");
            due("isPrefix(1, 0)", x.isPrefix(1, 0), 0);
            due("isPrefix(0, 1)", x.isPrefix(0, 1), 1);
        });
        edge(18, answer, "the last letter of a full word can be its prefix", () -> {
            put(0, "b");
            put(1, "a".repeat(15) + "b");
            due("isPrefix(0, 1)", x.isPrefix(0, 1), 0);
            free("ab");
            due("isPrefix(0, 1)", x.isPrefix(0, 1), 1);
        });
        edge(18, "BAD_INDEX", "the first one is no word", () -> dueNoWords("isPrefix(?, 0)", w -> x.isPrefix(w, 0)));
        edge(18, "BAD_INDEX", "the second one is no word", () -> dueNoWords("isPrefix(0, ?)", w -> x.isPrefix(0, w)));
    }

    private static void isFactor() {
        String answer = "Returns 1 if the first one is a factor of the second one, 0 if not";
        edge(19, "word: a word", "the first and the last word", () -> {
            put(0, "b");
            put(3, "abc");
            put(5, "d");
            dueForWords("isFactor(?, 3)", w -> x.isFactor(w, 3), 1, 0);
        });
        edge(19, "other: a word", "the first and the last word, also the same one", () -> {
            put(0, "abc");
            put(3, "b");
            put(5, "acd");
            dueForWords("isFactor(3, ?)", w -> x.isFactor(3, w), 1, 0);
            due("isFactor(3, 3)", x.isFactor(3, 3), 1);
        });
        edge(19, answer, "the empty word is a factor of each one, of the empty one too", () -> {
            put(1, A16);
            due("isFactor(0, 0)", x.isFactor(0, 0), 1);
            due("isFactor(0, 2)", x.isFactor(0, 2), 1);
            due("isFactor(0, 1)", x.isFactor(0, 1), 1);
        });
        edge(19, answer, "no word that is not empty is a factor of the empty one", () -> {
            put(1, "a");
            due("isFactor(1, 0)", x.isFactor(1, 0), 0);
        });
        edge(19, answer, "at the front, in the middle and at the end of a full word, and all of it", () -> {
            put(0, "b" + "a".repeat(13) + "cd");
            put(1, "ba");
            put(2, "ac");
            put(3, "cd");
            put(4, "b" + "a".repeat(13) + "cd");
            put(5, "ad");
            for (int word = 1; word <= 4; word++) {
                due("isFactor(" + word + ", 0)", x.isFactor(word, 0), 1);
            }
            due("isFactor(5, 0)", x.isFactor(5, 0), 0);
        });
        edge(19, answer, "what stands between two letters must be able to go away", () -> {
            put(0, "acb");
            put(1, "ab");
            due("isFactor(1, 0)", x.isFactor(1, 0), 0);
            free("ac");
            due("isFactor(1, 0)", x.isFactor(1, 0), 1);
        });
        edge(19, answer, "a longer word is no factor of a shorter one", () -> {
            put(0, "a".repeat(15));
            put(1, A16);
            due("isFactor(1, 0)", x.isFactor(1, 0), 0);
            due("isFactor(0, 1)", x.isFactor(0, 1), 1);
        });
        edge(19, "BAD_INDEX", "the first one is no word", () -> dueNoWords("isFactor(?, 0)", w -> x.isFactor(w, 0)));
        edge(19, "BAD_INDEX", "the second one is no word", () -> dueNoWords("isFactor(0, ?)", w -> x.isFactor(0, w)));
    }

    private static void exponent() {
        edge(20, "word: a word", "the first and the last word", () -> {
            put(0, "a");
            put(5, "aa");
            dueForWords("exponent(?)", w -> x.exponent(w), 1, 2);
        });
        edge(20, "Returns its exponent", "1 is the least one: a single letter, and a full word that is no power", () -> {
            put(0, "a");
            put(1, "a".repeat(15) + "b");
            put(2, "abba");
            due("exponent(0)", x.exponent(0), 1);
            due("exponent(1)", x.exponent(1), 1);
            due("exponent(2)", x.exponent(2), 1);
        });
        edge(20, "Returns its exponent", "16 is the greatest one", () -> {
            put(0, A16);
            due("exponent(0)", x.exponent(0), 16);
        });
        edge(20, "Returns its exponent", "the greatest one of several", () -> {
            put(0, "ab".repeat(8));
            put(1, "ab".repeat(6));
            due("exponent(0)", x.exponent(0), 8);
            due("exponent(1)", x.exponent(1), 6);
        });
        edge(20, "Returns its exponent", "a full word that is a power only up to likeness", () -> {
            put(0, A8B8);
            due("exponent(0)", x.exponent(0), 1);
            free("ab");
            due("exponent(0)", x.exponent(0), 8);
        });
        edge(20, "BAD_INDEX", "no such word", () -> dueNoWords("exponent(?)", w -> x.exponent(w)));
        edge(20, "NOT_POSSIBLE if it is empty", "at first, and after it has been emptied", () -> {
            due("exponent(0)", x.exponent(0), NOT_POSSIBLE);
            put(0, "aa");
            x.clear(0);
            due("exponent(0)", x.exponent(0), NOT_POSSIBLE);
        });
    }
}
