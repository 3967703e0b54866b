/** The boundary cases of promises 33 to 38, a test for each sentence that names one. */
public final class RecognisersBoundaryTest extends Boundaries {
    public static void main(String[] args) {
        setStates();
        setArrow();
        setAccepting();
        acceptedAlike();
        brokenDiamond();
        closed();
        finish(33, 38);
    }

    private static void accept(int... states) {
        for (int state : states) {
            x.setAccepting(state, true);
        }
    }

    private static void setStates() {
        edge(33, "Sets the number of states.", "with the least number state 0 is the last one", () -> {
            x.setStates(6);
            x.setStates(1);
            due("setAccepting(0, true)", x.setAccepting(0, true), 0);
            due("setAccepting(1, true)", x.setAccepting(1, true), BAD_INDEX);
        });
        edge(33, "Sets the number of states.", "with the greatest number state 5 is the last one", () -> {
            x.setStates(6);
            due("setAccepting(5, true)", x.setAccepting(5, true), 0);
            due("setAccepting(6, true)", x.setAccepting(6, true), BAD_INDEX);
        });
        String anew = "All arrows and states become as at first (also if the number is the same).";
        edge(33, anew, "the same number of states", () -> {
            x.setStates(6);
            lead("0a5 5d0");
            accept(0, 5);
            due("setStates(6)", x.setStates(6), 6);
            due("setArrow(0, 0, 0)", x.setArrow(0, 0, 0), 0);
            due("setArrow(5, 3, 5)", x.setArrow(5, 3, 5), 5);
            due("setAccepting(0, false)", x.setAccepting(0, false), 0);
            due("setAccepting(5, false)", x.setAccepting(5, false), 0);
        });
        edge(33, anew, "fewer states and more again", () -> {
            x.setStates(6);
            lead("0a5 5d0");
            accept(0, 5);
            x.setStates(1);
            due("setArrow(0, 0, 0)", x.setArrow(0, 0, 0), 0);
            x.setStates(6);
            due("setArrow(5, 3, 5)", x.setArrow(5, 3, 5), 5);
            due("setAccepting(5, false)", x.setAccepting(5, false), 0);
        });
        edge(33, anew, "the letters, their independence, the words and the text stay", () -> {
            letters(6, "af");
            put(5, "fa");
            write("f");
            x.setStates(6);
            due("independent(5)", x.independent(5), 1);
            dueWord(5, "fa");
            due("clearText()", x.clearText(), 1);
        });
        edge(33, "states: 1 to 6", "every number from 1 to 6 is taken", () -> {
            int previous = 1;
            for (int states = 1; states <= 6; states++) {
                due("setStates(" + states + ")", x.setStates(states), previous);
                previous = states;
            }
        });
        edge(33, "Returns the previous number", "the least and the greatest one", () -> {
            due("setStates(6)", x.setStates(6), 1);
            due("setStates(6)", x.setStates(6), 6);
            due("setStates(1)", x.setStates(1), 6);
            due("setStates(1)", x.setStates(1), 1);
        });
        edge(33, "BAD_VALUE", "no states are too few", () -> due("setStates(0)", x.setStates(0), BAD_VALUE));
        edge(33, "BAD_VALUE", "seven states are too many", () -> due("setStates(7)", x.setStates(7), BAD_VALUE));
        edge(33, "BAD_VALUE", "far outside", () -> dueOutside(1, 6, "setStates(?)", n -> x.setStates(n), BAD_VALUE));
    }

    private static void setArrow() {
        edge(34, "state: a state", "the first and the last state, of one and of six", () -> {
            due("setArrow(0, 0, 0)", x.setArrow(0, 0, 0), 0);
            x.setStates(6);
            due("setArrow(0, 0, 1)", x.setArrow(0, 0, 1), 0);
            due("setArrow(5, 0, 1)", x.setArrow(5, 0, 1), 5);
        });
        edge(34, "letter: a letter", "the first and the last letter of six, each with an arrow of its own", () -> {
            x.setLetters(6);
            x.setStates(6);
            lead("5a1 5f2");
            due("setArrow(5, 0, 5)", x.setArrow(5, 0, 5), 1);
            due("setArrow(5, 5, 5)", x.setArrow(5, 5, 5), 2);
            due("setArrow(5, 1, 5)", x.setArrow(5, 1, 5), 5);
            due("setArrow(4, 5, 4)", x.setArrow(4, 5, 4), 4);
        });
        edge(34, "to: a state", "the first and the last state", () -> {
            x.setStates(6);
            lead("1a0 1b5");
            due("setArrow(1, 0, 1)", x.setArrow(1, 0, 1), 0);
            due("setArrow(1, 1, 1)", x.setArrow(1, 1, 1), 5);
        });
        edge(34, "Returns the previous state to which the arrow led", "at first its own state, then what has been set", () -> {
            x.setStates(6);
            due("setArrow(5, 3, 0)", x.setArrow(5, 3, 0), 5);
            due("setArrow(5, 3, 5)", x.setArrow(5, 3, 5), 0);
            due("setArrow(5, 3, 5)", x.setArrow(5, 3, 5), 5);
        });
        edge(34, "BAD_INDEX", "no such state of one and of six", () -> {
            dueOutside(0, 0, "setArrow(?, 0, 0)", q -> x.setArrow(q, 0, 0), BAD_INDEX);
            x.setStates(6);
            dueOutside(0, 5, "setArrow(?, 0, 0)", q -> x.setArrow(q, 0, 0), BAD_INDEX);
        });
        edge(34, "BAD_INDEX", "no such letter of four, of two and of six", () -> {
            dueOutside(0, 3, "setArrow(0, ?, 0)", l -> x.setArrow(0, l, 0), BAD_INDEX);
            x.setLetters(2);
            due("setArrow(0, 2, 0)", x.setArrow(0, 2, 0), BAD_INDEX);
            x.setLetters(6);
            due("setArrow(0, 6, 0)", x.setArrow(0, 6, 0), BAD_INDEX);
        });
        edge(34, "BAD_INDEX", "no such state to lead to", () -> {
            dueOutside(0, 0, "setArrow(0, 0, ?)", q -> x.setArrow(0, 0, q), BAD_INDEX);
            x.setStates(6);
            dueOutside(0, 5, "setArrow(0, 0, ?)", q -> x.setArrow(0, 0, q), BAD_INDEX);
        });
    }

    private static void setAccepting() {
        edge(35, "state: a state", "the first and the last state, each by itself", () -> {
            x.setStates(6);
            due("setAccepting(5, true)", x.setAccepting(5, true), 0);
            due("setAccepting(0, true)", x.setAccepting(0, true), 0);
            due("setAccepting(4, false)", x.setAccepting(4, false), 0);
            due("setAccepting(5, false)", x.setAccepting(5, false), 1);
            due("setAccepting(0, false)", x.setAccepting(0, false), 1);
        });
        edge(35, "accepting: whether it is accepting from now on", "what it is already changes nothing", () -> {
            x.setAccepting(0, false);
            due("acceptedAlike(0)", x.acceptedAlike(0), 0);
            x.setAccepting(0, true);
            x.setAccepting(0, true);
            due("acceptedAlike(0)", x.acceptedAlike(0), 1);
            x.setAccepting(0, false);
            due("acceptedAlike(0)", x.acceptedAlike(0), 0);
        });
        edge(35, "Returns 1 if it was accepting, 0 if not", "each of the four changes", () -> {
            due("setAccepting(0, false)", x.setAccepting(0, false), 0);
            due("setAccepting(0, true)", x.setAccepting(0, true), 0);
            due("setAccepting(0, true)", x.setAccepting(0, true), 1);
            due("setAccepting(0, false)", x.setAccepting(0, false), 1);
            due("setAccepting(0, false)", x.setAccepting(0, false), 0);
        });
        edge(35, "BAD_INDEX", "no such state of one and of six", () -> {
            dueOutside(0, 0, "setAccepting(?, true)", q -> x.setAccepting(q, true), BAD_INDEX);
            x.setStates(6);
            dueOutside(0, 5, "setAccepting(?, true)", q -> x.setAccepting(q, true), BAD_INDEX);
        });
    }

    private static void acceptedAlike() {
        String counts = "Counts the words that are alike to a word and that are accepted.";
        edge(36, counts, "the empty word is accepted if state 0 is accepting", () -> {
            x.setStates(2);
            x.setAccepting(1, true);
            due("acceptedAlike(0)", x.acceptedAlike(0), 0);
            x.setAccepting(0, true);
            due("acceptedAlike(0)", x.acceptedAlike(0), 1);
        });
        edge(36, counts, "some of the words, one of them, none", () -> {
            free("ab bc ac");
            put(0, "abc");
            x.setStates(2);
            lead("0a1 1b0 1c0");
            x.setAccepting(1, true);
            due("acceptedAlike(0)", x.acceptedAlike(0), 2);
            x.setIndependent(1, 2, false);
            due("acceptedAlike(0)", x.acceptedAlike(0), 1);
            put(0, "b");
            due("acceptedAlike(0)", x.acceptedAlike(0), 0);
        });
        edge(36, counts, "through all six states of a full word", () -> {
            x.setStates(6);
            lead("0a1 1a2 2a3 3a4 4a5 5a0");
            x.setAccepting(4, true);
            put(0, A16);
            due("acceptedAlike(0)", x.acceptedAlike(0), 1);
            put(0, "a".repeat(15));
            due("acceptedAlike(0)", x.acceptedAlike(0), 0);
        });
        edge(36, "word: a word", "the first and the last word", () -> {
            x.setAccepting(0, true);
            free("ab");
            put(0, "ab");
            put(5, "abb");
            dueForWords("acceptedAlike(?)", w -> x.acceptedAlike(w), 2, 3);
        });
        edge(36, "Returns their number", "none, if no state is accepting", () -> {
            letters(6, ALL_SIX);
            put(0, "aaabbbcccdddeeff");
            due("acceptedAlike(0)", x.acceptedAlike(0), 0);
        });
        edge(36, "Returns their number", "the greatest of all numbers, which no int holds", () -> {
            letters(6, ALL_SIX);
            put(0, "aaabbbcccdddeeff");
            x.setAccepting(0, true);
            due("acceptedAlike(0)", x.acceptedAlike(0), 4036032000L);
        });
        edge(36, "BAD_INDEX", "no such word", () -> dueNoWords("acceptedAlike(?)", w -> x.acceptedAlike(w)));
    }

    private static void brokenDiamond() {
        edge(37, "the one with the lowest state", "of the first and the last state", () -> {
            free("ab");
            x.setStates(6);
            lead("5a4 4b3");
            due("brokenDiamond()", x.brokenDiamond(), 501);
            lead("0a1 1b2");
            due("brokenDiamond()", x.brokenDiamond(), 1);
        });
        edge(37, "(of all states, also those to which no word leads)", "only the last state, which is not reached", () -> {
            free("ab");
            x.setStates(6);
            lead("5a4 4b3");
            due("brokenDiamond()", x.brokenDiamond(), 501);
            due("closed()", x.closed(), 1);
        });
        edge(37, "(of all states, also those to which no word leads)", "accepting or not, the states themselves count", () -> {
            free("ab");
            x.setStates(3);
            lead("0a1 1b2");
            due("brokenDiamond()", x.brokenDiamond(), 1);
            accept(0, 1, 2);
            due("brokenDiamond()", x.brokenDiamond(), 1);
        });
        edge(37, "of several the one with the lowest first letter", "in the same state", () -> {
            free("ad bc");
            x.setStates(3);
            lead("0a1 1d2 0b1 1c2");
            due("brokenDiamond()", x.brokenDiamond(), 3);
            x.setIndependent(0, 3, false);
            due("brokenDiamond()", x.brokenDiamond(), 12);
        });
        edge(37, "of several the one with the lowest second letter", "with the same first letter", () -> {
            free("ab ad");
            x.setStates(3);
            lead("0a1 1d2 1b2");
            due("brokenDiamond()", x.brokenDiamond(), 1);
            x.setIndependent(0, 1, false);
            due("brokenDiamond()", x.brokenDiamond(), 3);
        });
        edge(37, "Returns 100 * the state + 10 * the first letter + the second letter", "1, the least of all", () -> {
            free("ab");
            x.setStates(3);
            lead("0b1 1a2");
            due("brokenDiamond()", x.brokenDiamond(), 1);
        });
        edge(37, "Returns 100 * the state + 10 * the first letter + the second letter", "545, the greatest of all", () -> {
            letters(6, ALL_SIX);
            x.setStates(6);
            lead("5e0 0f1");
            due("brokenDiamond()", x.brokenDiamond(), 545);
        });
        edge(37, "NONE if all commute", "a single state", () -> {
            letters(6, ALL_SIX);
            due("brokenDiamond()", x.brokenDiamond(), NONE);
        });
        edge(37, "NONE if all commute", "without independent letters there is no diamond", () -> {
            x.setStates(3);
            lead("0a1 1b2");
            due("brokenDiamond()", x.brokenDiamond(), NONE);
            free("cd");
            due("brokenDiamond()", x.brokenDiamond(), NONE);
        });
        edge(37, "NONE if all commute", "six states with arrows that commute", () -> {
            letters(6, ALL_SIX);
            x.setStates(6);
            lead("0a1 1a2 2a3 3a4 4a5 5a0 0f1 1f2 2f3 3f4 4f5 5f0");
            due("brokenDiamond()", x.brokenDiamond(), NONE);
        });
    }

    private static void closed() {
        String answer = "Returns 1 if the recogniser is closed, 0 if not.";
        edge(38, answer, "a single state always is, accepting or not", () -> {
            letters(6, ALL_SIX);
            due("closed()", x.closed(), 1);
            x.setAccepting(0, true);
            due("closed()", x.closed(), 1);
        });
        edge(38, answer, "without independent letters it always is", () -> {
            x.setStates(3);
            lead("0a1 1b2");
            accept(2);
            due("closed()", x.closed(), 1);
            free("ab");
            due("closed()", x.closed(), 0);
        });
        edge(38, answer, "if no state is accepting, or all are, a broken diamond does not matter", () -> {
            free("ab");
            x.setStates(3);
            lead("0a1 1b2");
            due("closed()", x.closed(), 1);
            accept(0, 1, 2);
            due("closed()", x.closed(), 1);
            x.setAccepting(0, false);
            due("closed()", x.closed(), 1);
            x.setAccepting(1, false);
            due("closed()", x.closed(), 0);
        });
        edge(38, answer, "a state to which no word leads does not matter, until one leads there", () -> {
            free("ab");
            x.setStates(6);
            lead("5a4 4b3");
            accept(3);
            due("closed()", x.closed(), 1);
            lead("0c5");
            due("closed()", x.closed(), 0);
        });
        edge(38, answer, "the first letter alone, or the last letter alone, leads to the broken diamond", () -> {
            free("bc");
            x.setStates(4);
            lead("0a1 1b2 2c3");
            accept(3);
            due("closed()", x.closed(), 0);
            lead("0a0");
            due("closed()", x.closed(), 1);
            lead("0d1");
            due("closed()", x.closed(), 0);
        });
        edge(38, answer, "the first letter alone, or the last letter alone, tells the ends apart", () -> {
            free("bc");
            x.setStates(5);
            lead("0b1 1c2 0c1 1b3 2a4");
            accept(4);
            due("closed()", x.closed(), 0);
            lead("2a2");
            due("closed()", x.closed(), 1);
            lead("2d4");
            due("closed()", x.closed(), 0);
        });
        edge(38, answer, "one end is state 0, which only a further letter tells apart, in either order of the two", () -> {
            free("ab");
            x.setStates(6);
            lead("0c3 3a4 4b1 3b5 5a0 1d2");
            due("closed()", x.closed(), 1);
            accept(2);
            due("brokenDiamond()", x.brokenDiamond(), 301);
            due("closed()", x.closed(), 0);
            x.setStates(6);
            lead("0c3 3b4 4a1 3a5 5b0 1d2");
            accept(2);
            due("closed()", x.closed(), 0);
        });
        edge(38, answer, "a recogniser that only counts the letters is", () -> {
            letters(2, "ab");
            x.setStates(2);
            lead("0a1 1a0 0b1 1b0");
            accept(1);
            due("closed()", x.closed(), 1);
        });
        edge(38, answer, "ends that no word tells apart do not matter", () -> {
            free("ab");
            x.setStates(6);
            lead("0a1 1b2 0b1 1a3");
            accept(2, 3);
            due("brokenDiamond()", x.brokenDiamond(), 1);
            due("closed()", x.closed(), 1);
            x.setAccepting(3, false);
            due("closed()", x.closed(), 0);
        });
        edge(38, answer, "words of ten letters, and no shorter ones, are alike and not both accepted", () -> {
            letters(2, "ab");
            x.setStates(6);
            lead("0a1 0b1 1a2 1b2 2a3 2b3 3a4 3b4 4a5 4b5 5b0");
            accept(0, 1, 2, 3, 5);
            due("closed()", x.closed(), 0);
            x.setAccepting(4, true);
            due("closed()", x.closed(), 1);
        });
    }
}
