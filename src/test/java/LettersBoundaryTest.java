/** The boundary cases of promises 1 to 5, a test for each sentence that names one. */
public final class LettersBoundaryTest extends Boundaries {
    public static void main(String[] args) {
        newObject();
        setLetters();
        setIndependent();
        independent();
        different();
        finish(1, 5);
    }

    private static void newObject() {
        String sentence = "Creates a bench with everything as at first, an empty text and empty slots.";
        edge(1, sentence, "there are four letters", () -> {
            due("independent(3)", x.independent(3), 0);
            due("independent(4)", x.independent(4), BAD_INDEX);
            due("setLetters(4)", x.setLetters(4), 4);
        });
        edge(1, sentence, "no letters are independent", () -> {
            for (int letter = 0; letter < 4; letter++) {
                due("independent(" + letter + ")", x.independent(letter), 0);
            }
        });
        edge(1, sentence, "all six words are empty", () -> {
            for (int word = 0; word < 6; word++) {
                due("length(" + word + ")", x.length(word), 0);
            }
        });
        edge(1, sentence, "the text is empty", () -> {
            due("faultPosition()", x.faultPosition(), 0);
            due("clearText()", x.clearText(), 0);
        });
        edge(1, sentence, "there is one state, it is not accepting, and its arrows lead to itself", () -> {
            due("setArrow(1, 0, 0)", x.setArrow(1, 0, 0), BAD_INDEX);
            for (int letter = 0; letter < 4; letter++) {
                due("setArrow(0, " + letter + ", 0)", x.setArrow(0, letter, 0), 0);
            }
            due("setAccepting(0, true)", x.setAccepting(0, true), 0);
            due("setStates(2)", x.setStates(2), 1);
        });
        edge(1, sentence, "both slots are empty", () -> {
            due("restore(0)", x.restore(0), NOT_POSSIBLE);
            due("restore(1)", x.restore(1), NOT_POSSIBLE);
        });
        edge(1, sentence, "also after another object has been changed and filled", () -> {
            letters(6, ALL_SIX);
            put(0, A16);
            write("a".repeat(80));
            x.setStates(6);
            x.setAccepting(0, true);
            x.save(0);
            x.save(1);
            x = new CommutingWords();
            due("independent(3)", x.independent(3), 0);
            due("independent(4)", x.independent(4), BAD_INDEX);
            due("length(0)", x.length(0), 0);
            due("clearText()", x.clearText(), 0);
            due("setAccepting(0, false)", x.setAccepting(0, false), 0);
            due("setStates(1)", x.setStates(1), 1);
            due("restore(0)", x.restore(0), NOT_POSSIBLE);
            due("restore(1)", x.restore(1), NOT_POSSIBLE);
        });
    }

    private static void setLetters() {
        edge(2, "Sets the number of letters.", "with the least number the letter 1 is the last one", () -> {
            x.setLetters(2);
            due("independent(1)", x.independent(1), 0);
            due("independent(2)", x.independent(2), BAD_INDEX);
        });
        edge(2, "Sets the number of letters.", "with the greatest number the letter 5 is the last one", () -> {
            x.setLetters(6);
            due("independent(5)", x.independent(5), 0);
            due("independent(6)", x.independent(6), BAD_INDEX);
        });
        edge(2, "All words become empty", "words 0 and 5, one of them full", () -> {
            put(0, "a");
            put(5, A16);
            x.setLetters(5);
            for (int word = 0; word < 6; word++) {
                due("length(" + word + ")", x.length(word), 0);
            }
            due("letter(5, 0)", x.letter(5, 0), NONE);
        });
        edge(2, "no letters are independent", "not even after fewer letters and more again", () -> {
            letters(6, ALL_SIX);
            x.setLetters(2);
            due("independent(0)", x.independent(0), 0);
            x.setLetters(6);
            for (int letter = 0; letter < 6; letter++) {
                due("independent(" + letter + ")", x.independent(letter), 0);
            }
        });
        edge(2, "the recogniser becomes as at first", "one state, which has its own arrows and is not accepting", () -> {
            x.setStates(6);
            lead("0a5 0d5 5a0 5d0");
            x.setAccepting(0, true);
            x.setAccepting(5, true);
            x.setLetters(6);
            due("setArrow(1, 0, 0)", x.setArrow(1, 0, 0), BAD_INDEX);
            due("setAccepting(0, false)", x.setAccepting(0, false), 0);
            for (int letter = 0; letter < 6; letter++) {
                due("setArrow(0, " + letter + ", 0)", x.setArrow(0, letter, 0), 0);
            }
            due("setStates(1)", x.setStates(1), 1);
        });
        edge(2, "(also if the number is the same)", "everything begins anew with the same number", () -> {
            free("ab");
            put(3, "ab");
            x.setStates(2);
            lead("0a1");
            x.setAccepting(0, true);
            due("setLetters(4)", x.setLetters(4), 4);
            due("independent(0)", x.independent(0), 0);
            due("length(3)", x.length(3), 0);
            due("setAccepting(0, false)", x.setAccepting(0, false), 0);
            due("setArrow(0, 0, 0)", x.setArrow(0, 0, 0), 0);
            due("setStates(1)", x.setStates(1), 1);
        });
        edge(2, "The text and the slots stay.", "a full text stays, also with letters that are no longer there", () -> {
            write("d".repeat(80));
            x.setLetters(3);
            due("faultPosition()", x.faultPosition(), 0);
            x.setLetters(4);
            due("faultPosition()", x.faultPosition(), NONE);
            due("clearText()", x.clearText(), 80);
        });
        edge(2, "The text and the slots stay.", "the slot keeps what it kept, the empty one stays empty", () -> {
            put(0, "dcba");
            x.save(1);
            x.setLetters(2);
            due("restore(0)", x.restore(0), NOT_POSSIBLE);
            due("restore(1)", x.restore(1), 4);
            dueWord(0, "dcba");
        });
        edge(2, "letters: 2 to 6", "every number from 2 to 6 is taken", () -> {
            int previous = 4;
            for (int letters = 2; letters <= 6; letters++) {
                due("setLetters(" + letters + ")", x.setLetters(letters), previous);
                previous = letters;
            }
        });
        edge(2, "Returns the previous number", "the least and the greatest one", () -> {
            due("setLetters(2)", x.setLetters(2), 4);
            due("setLetters(6)", x.setLetters(6), 2);
            due("setLetters(6)", x.setLetters(6), 6);
            due("setLetters(4)", x.setLetters(4), 6);
        });
        edge(2, "BAD_VALUE", "one letter is too few", () -> due("setLetters(1)", x.setLetters(1), BAD_VALUE));
        edge(2, "BAD_VALUE", "seven letters are too many", () -> due("setLetters(7)", x.setLetters(7), BAD_VALUE));
        edge(2, "BAD_VALUE", "no letters, and numbers far outside", () -> {
            due("setLetters(0)", x.setLetters(0), BAD_VALUE);
            dueOutside(2, 6, "setLetters(?)", n -> x.setLetters(n), BAD_VALUE);
        });
    }

    private static void setIndependent() {
        edge(3, "Makes two letters independent or dependent.", "the lowest two letters, and no others", () -> {
            x.setIndependent(0, 1, true);
            due("independent(0)", x.independent(0), 2);
            due("independent(1)", x.independent(1), 1);
            due("independent(2)", x.independent(2), 0);
        });
        edge(3, "Makes two letters independent or dependent.", "the highest two of six letters, the higher one first", () -> {
            x.setLetters(6);
            x.setIndependent(5, 4, true);
            due("independent(4)", x.independent(4), 32);
            due("independent(5)", x.independent(5), 16);
            due("independent(0)", x.independent(0), 0);
        });
        edge(3, "Makes two letters independent or dependent.", "dependent again, the other pairs stay", () -> {
            letters(6, ALL_SIX);
            x.setIndependent(5, 0, false);
            due("independent(0)", x.independent(0), 30);
            due("independent(5)", x.independent(5), 30);
            due("independent(1)", x.independent(1), 61);
        });
        edge(3, "The words stay as they are.", "a full word that now has another normal form", () -> {
            put(0, "dcba".repeat(4));
            x.setIndependent(3, 0, true);
            dueWord(0, "dcba".repeat(4));
            x.setIndependent(3, 0, false);
            dueWord(0, "dcba".repeat(4));
        });
        edge(3, "letter: a letter", "the first and the last letter are letters", () -> {
            due("setIndependent(0, 1, true)", x.setIndependent(0, 1, true), 0);
            due("setIndependent(3, 1, true)", x.setIndependent(3, 1, true), 0);
        });
        edge(3, "other: another letter", "the first and the last letter are others", () -> {
            due("setIndependent(1, 0, true)", x.setIndependent(1, 0, true), 0);
            due("setIndependent(1, 3, true)", x.setIndependent(1, 3, true), 0);
            due("independent(1)", x.independent(1), 9);
        });
        edge(3, "independent: whether they are independent from now on", "what they are already changes nothing", () -> {
            x.setIndependent(0, 1, false);
            due("independent(0)", x.independent(0), 0);
            due("independent(1)", x.independent(1), 0);
            x.setIndependent(0, 1, true);
            x.setIndependent(0, 1, true);
            due("independent(0)", x.independent(0), 2);
            due("independent(1)", x.independent(1), 1);
        });
        edge(3, "Returns 1 if they were independent before, 0 if not", "each of the four changes, in both orders", () -> {
            due("setIndependent(0, 1, false)", x.setIndependent(0, 1, false), 0);
            due("setIndependent(0, 1, true)", x.setIndependent(0, 1, true), 0);
            due("setIndependent(1, 0, true)", x.setIndependent(1, 0, true), 1);
            due("setIndependent(1, 0, false)", x.setIndependent(1, 0, false), 1);
            due("setIndependent(0, 1, false)", x.setIndependent(0, 1, false), 0);
        });
        edge(3, "BAD_INDEX, also if they are the same", "a letter with itself, the first one and the last one", () -> {
            due("setIndependent(0, 0, true)", x.setIndependent(0, 0, true), BAD_INDEX);
            due("setIndependent(3, 3, true)", x.setIndependent(3, 3, true), BAD_INDEX);
            due("setIndependent(3, 3, false)", x.setIndependent(3, 3, false), BAD_INDEX);
            due("independent(3)", x.independent(3), 0);
        });
        edge(3, "BAD_INDEX, also", "the first one is no letter", () ->
            dueOutside(0, 3, "setIndependent(?, 1, true)", l -> x.setIndependent(l, 1, true), BAD_INDEX));
        edge(3, "BAD_INDEX, also", "the second one is no letter", () ->
            dueOutside(0, 3, "setIndependent(1, ?, true)", l -> x.setIndependent(1, l, true), BAD_INDEX));
        edge(3, "BAD_INDEX, also", "with two letters there is no letter 2, with six there is a letter 5", () -> {
            x.setLetters(2);
            due("setIndependent(1, 2, true)", x.setIndependent(1, 2, true), BAD_INDEX);
            x.setLetters(6);
            due("setIndependent(5, 6, true)", x.setIndependent(5, 6, true), BAD_INDEX);
            due("setIndependent(5, 2, true)", x.setIndependent(5, 2, true), 0);
        });
    }

    private static void independent() {
        String set = "Returns the set of the letters that are independent of it, bit i for the letter i";
        edge(4, "letter: a letter", "the first and the last of six letters", () -> {
            letters(6, "af");
            due("independent(0)", x.independent(0), 32);
            due("independent(5)", x.independent(5), 1);
        });
        edge(4, set, "the empty set", () -> {
            letters(2, "");
            due("independent(0)", x.independent(0), 0);
            due("independent(1)", x.independent(1), 0);
        });
        edge(4, set, "the sets of all others", () -> {
            letters(6, ALL_SIX);
            for (int letter = 0; letter < 6; letter++) {
                due("independent(" + letter + ")", x.independent(letter), 63 - (1 << letter));
            }
        });
        edge(4, "BAD_INDEX", "no letter of four", () ->
            dueOutside(0, 3, "independent(?)", l -> x.independent(l), BAD_INDEX));
        edge(4, "BAD_INDEX", "no letter of two", () -> {
            x.setLetters(2);
            dueOutside(0, 1, "independent(?)", l -> x.independent(l), BAD_INDEX);
        });
        edge(4, "BAD_INDEX", "no letter of six", () -> {
            x.setLetters(6);
            dueOutside(0, 5, "independent(?)", l -> x.independent(l), BAD_INDEX);
        });
    }

    private static void different() {
        String count = "Returns the greatest number of words of this length of which no two are alike";
        edge(5, "Counts words up to likeness.", "no two words are alike if no letters are independent", () -> {
            x.setLetters(2);
            due("different(1)", x.different(1), 2);
            due("different(16)", x.different(16), 65536);
        });
        edge(5, "Counts words up to likeness.", "only the number of each letter counts if all are independent", () -> {
            letters(2, "ab");
            due("different(1)", x.different(1), 2);
            due("different(16)", x.different(16), 17);
            letters(6, ALL_SIX);
            due("different(16)", x.different(16), 20349);
        });
        edge(5, "length: 0 to 16", "there is one empty word, however many letters there are", () -> {
            due("different(0)", x.different(0), 1);
            letters(6, ALL_SIX);
            due("different(0)", x.different(0), 1);
        });
        edge(5, "length: 0 to 16", "16 is a length", () -> due("different(16)", x.different(16), 4294967296L));
        edge(5, count, "the greatest of all numbers, which no int holds", () -> {
            x.setLetters(6);
            due("different(16)", x.different(16), 2821109907456L);
        });
        edge(5, count, "two words of two letters are alike if one pair is independent", () -> {
            letters(6, "ef");
            due("different(1)", x.different(1), 6);
            due("different(2)", x.different(2), 35);
            due("different(3)", x.different(3), 204);
        });
        edge(5, count, "the words of the object do not matter", () -> {
            put(0, A16);
            due("different(1)", x.different(1), 4);
        });
        edge(5, "BAD_VALUE", "a length below 0", () -> due("different(-1)", x.different(-1), BAD_VALUE));
        edge(5, "BAD_VALUE", "a length above 16", () -> due("different(17)", x.different(17), BAD_VALUE));
        edge(5, "BAD_VALUE", "lengths far outside", () ->
            dueOutside(0, 16, "different(?)", n -> x.different(n), BAD_VALUE));
    }
}
