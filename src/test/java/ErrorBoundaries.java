import java.util.ArrayList;
import java.util.List;

/** The boundary cases of what the description says of errors; DescriptionBoundaryTest runs them. */
final class ErrorBoundaries extends Boundaries {
    private static final String FAULTY = "a*(b+c";
    private static final String FULL_AND_FAULTY = "a".repeat(79) + "(";

    private interface ObjectCall {
        long on(CommutingWords y);
    }

    private ErrorBoundaries() {
    }

    static void run() {
        constants();
        orderOfChecks();
        noneAfterErrors();
        negativeNumbers();
        refusedForLetters();
        refusedForWords();
        refusedComparisons();
        refusedResults();
        refusedForTexts();
        refusedForRecognisers();
        refusedForSlots();
    }

    private static void constants() {
        edge("Description", "Errors are reported by negative constants.",
            "each of them is negative, and no two are the same", () -> {
            int[] all = {CommutingWords.BAD_INDEX, CommutingWords.BAD_VALUE, CommutingWords.NOT_POSSIBLE,
                CommutingWords.FULL, CommutingWords.NONE};
            for (int i = 0; i < all.length; i++) {
                due("negative", all[i] < 0 ? 1 : 0, 1);
                for (int j = 0; j < i; j++) {
                    due("the same", all[i] == all[j] ? 1 : 0, 0);
                }
            }
        });
        edge("Description", "BAD_INDEX = -1: There is no such letter, word, state, slot or index.", "one of each", () -> {
            due("BAD_INDEX", CommutingWords.BAD_INDEX, -1);
            due("independent(4)", x.independent(4), CommutingWords.BAD_INDEX);
            due("length(6)", x.length(6), CommutingWords.BAD_INDEX);
            due("setAccepting(1, true)", x.setAccepting(1, true), CommutingWords.BAD_INDEX);
            due("save(2)", x.save(2), CommutingWords.BAD_INDEX);
        });
        edge("Description", "BAD_VALUE = -2: Another argument is out of range.", "one of each kind of argument", () -> {
            due("BAD_VALUE", CommutingWords.BAD_VALUE, -2);
            due("setLetters(7)", x.setLetters(7), CommutingWords.BAD_VALUE);
            due("different(17)", x.different(17), CommutingWords.BAD_VALUE);
            due("append(128)", x.append(128), CommutingWords.BAD_VALUE);
            due("setStates(7)", x.setStates(7), CommutingWords.BAD_VALUE);
        });
        edge("Description", "NOT_POSSIBLE = -3: The call is not possible now.",
            "possible as soon as things are otherwise", () -> {
            due("NOT_POSSIBLE", CommutingWords.NOT_POSSIBLE, -3);
            due("exponent(0)", x.exponent(0), CommutingWords.NOT_POSSIBLE);
            put(0, "a");
            due("exponent(0)", x.exponent(0), 1);
            due("shortest()", x.shortest(), CommutingWords.NOT_POSSIBLE);
            write("a");
            due("shortest()", x.shortest(), 1);
            due("restore(0)", x.restore(0), CommutingWords.NOT_POSSIBLE);
            x.save(0);
            due("restore(0)", x.restore(0), 4);
        });
        edge("Description", "FULL = -4: There is no room.", "in a word and in the text", () -> {
            due("FULL", CommutingWords.FULL, -4);
            put(0, A16);
            write("a".repeat(80));
            due("add(0, 0)", x.add(0, 0), CommutingWords.FULL);
            due("append('a')", x.append('a'), CommutingWords.FULL);
        });
        edge("Description", "NONE = -5: There is no such thing; not an error.",
            "no letter, no layer, no fault, no broken diamond", () -> {
            due("NONE", CommutingWords.NONE, -5);
            due("letter(0, 0)", x.letter(0, 0), CommutingWords.NONE);
            due("layer(0, 0)", x.layer(0, 0), CommutingWords.NONE);
            write("a");
            due("faultPosition()", x.faultPosition(), CommutingWords.NONE);
            due("brokenDiamond()", x.brokenDiamond(), CommutingWords.NONE);
        });
    }

    /** An object with a full word 0, an empty word 3, a text with a fault and an empty slot 1. */
    private static CommutingWords richObject(String text) {
        x = new CommutingWords();
        letters(5, "ac bd ce");
        put(0, "c".repeat(16));
        put(1, "ba");
        put(2, "ab");
        put(4, "ca");
        put(5, "e".repeat(9));
        x.setStates(3);
        lead("0a1 1b2 2e0");
        x.setAccepting(1, true);
        x.save(0);
        put(4, "cad");
        lead("0b2");
        x.setIndependent(0, 4, true);
        x.setAccepting(2, true);
        write(text);
        return x;
    }

    private static void order(String what, ObjectCall call, long want) {
        edge("Description", "Where several can apply, the order of the @return line is the order of the checks.", what,
            () -> due(what, call.on(richObject(FULL_AND_FAULTY)), want));
    }

    private static void orderOfChecks() {
        order("add(0, 5), no such letter before FULL", y -> y.add(0, 5), BAD_INDEX);
        order("product(0, 0, 6), no such result before FULL", y -> y.product(0, 0, 6), BAD_INDEX);
        order("quotient(1, 2, 6), no such result before NOT_POSSIBLE", y -> y.quotient(1, 2, 6), BAD_INDEX);
        order("commonMultiple(1, 2, 6), no such result before NOT_POSSIBLE", y -> y.commonMultiple(1, 2, 6), BAD_INDEX);
        order("commonMultiple(0, 5, 6), no such result before FULL", y -> y.commonMultiple(0, 5, 6), BAD_INDEX);
        order("commonMultiple(0, 2, 3), NOT_POSSIBLE before FULL", y -> y.commonMultiple(0, 2, 3), NOT_POSSIBLE);
        order("root(3, 6), no such result before NOT_POSSIBLE", y -> y.root(3, 6), BAD_INDEX);
        order("append(128), BAD_VALUE before FULL", y -> y.append(128), BAD_VALUE);
        order("append(-1), BAD_VALUE before FULL", y -> y.append(-1), BAD_VALUE);
        order("matches(6), no such word before NOT_POSSIBLE", y -> y.matches(6), BAD_INDEX);
        order("matches(-1), no such word before NOT_POSSIBLE", y -> y.matches(-1), BAD_INDEX);
        order("restore(2), no such slot before NOT_POSSIBLE", y -> y.restore(2), BAD_INDEX);
    }

    private static void only(String what, ObjectCall call) {
        edge("Description", "NONE is not an error and is returned only if no error applies", what,
            () -> due(what, call.on(richObject(FAULTY)), BAD_INDEX));
    }

    private static void noneAfterErrors() {
        only("letter(6, -1)", y -> y.letter(6, -1));
        only("letter(-1, 16)", y -> y.letter(-1, 16));
        only("normal(6, -1)", y -> y.normal(6, -1));
        only("normal(-1, 16)", y -> y.normal(-1, 16));
        only("layer(6, -1)", y -> y.layer(6, -1));
        only("layer(-1, 16)", y -> y.layer(-1, 16));
        only("projected(6, 0, 1, -1)", y -> y.projected(6, 0, 1, -1));
        only("projected(0, 5, 1, -1)", y -> y.projected(0, 5, 1, -1));
        only("projected(0, 0, 5, 16)", y -> y.projected(0, 0, 5, 16));
        only("projected(3, -1, -1, 0)", y -> y.projected(3, -1, -1, 0));
    }

    private static void negativeNumbers() {
        String sentence = "for a negative number of a letter or of a layer it is returned, too";
        int[] negative = {-1, -2, -16, -256, Integer.MIN_VALUE};
        edge("Description", sentence, "of a letter of a word, full or empty", () -> {
            put(0, A16);
            for (int i : negative) {
                due("letter(0, " + i + ")", x.letter(0, i), NONE);
                due("letter(1, " + i + ")", x.letter(1, i), NONE);
            }
        });
        edge("Description", sentence, "of a letter of a normal form", () -> {
            put(0, A16);
            for (int i : negative) {
                due("normal(0, " + i + ")", x.normal(0, i), NONE);
                due("normal(1, " + i + ")", x.normal(1, i), NONE);
            }
        });
        edge("Description", sentence, "of a letter of a projection", () -> {
            put(0, A16);
            for (int i : negative) {
                due("projected(0, 0, 0, " + i + ")", x.projected(0, 0, 0, i), NONE);
                due("projected(1, 0, 1, " + i + ")", x.projected(1, 0, 1, i), NONE);
            }
        });
        edge("Description", sentence, "of a layer", () -> {
            put(0, A16);
            for (int i : negative) {
                due("layer(0, " + i + ")", x.layer(0, i), NONE);
                due("layer(1, " + i + ")", x.layer(1, i), NONE);
            }
        });
    }

    // ---- calls that report an error

    /** All that can be read of an object. Reading it changes it, so it is of no use afterwards. */
    private static List<Long> readAll(CommutingWords y) {
        List<Long> read = new ArrayList<>();
        read.add((long) y.faultPosition());
        read.add((long) y.shortest());
        read.add((long) y.starConnected());
        read.add((long) y.append('b'));
        read.add((long) y.clearText());
        readSetting(y, read);
        for (int slot = 0; slot < 2; slot++) {
            read.add((long) y.restore(slot));
            readSetting(y, read);
        }
        return read;
    }

    private static void readSetting(CommutingWords y, List<Long> read) {
        read.add(y.checksum());
        for (int word = 0; word < 6; word++) {
            int length = y.length(word);
            read.add((long) length);
            for (int i = 0; i < length; i++) {
                read.add((long) y.letter(word, i));
            }
        }
        for (int letter = 0; letter < 6; letter++) {
            read.add((long) y.independent(letter));
            for (int state = 0; state < 3; state++) {
                read.add((long) y.setArrow(state, letter, 0));
            }
        }
        for (int state = 0; state < 4; state++) {
            read.add((long) y.setAccepting(state, false));
        }
        read.add((long) y.setStates(1));
    }

    private static void refused(String what, ObjectCall call, long want) {
        refused(what, FAULTY, call, want);
    }

    private static void refused(String what, String text, ObjectCall call, long want) {
        edge("Description", "A call that reports an error changes nothing.", what, () -> {
            CommutingWords untouched = richObject(text);
            CommutingWords touched = richObject(text);
            due(what, call.on(touched), want);
            List<Long> before = readAll(untouched);
            List<Long> after = readAll(touched);
            if (!before.equals(after)) {
                fail("the object was " + before + " and is now " + after);
            }
        });
    }

    private static void refusedForLetters() {
        refused("setLetters(1)", y -> y.setLetters(1), BAD_VALUE);
        refused("setLetters(7)", y -> y.setLetters(7), BAD_VALUE);
        refused("setIndependent(1, 1, true)", y -> y.setIndependent(1, 1, true), BAD_INDEX);
        refused("setIndependent(0, 5, true)", y -> y.setIndependent(0, 5, true), BAD_INDEX);
        refused("setIndependent(5, 0, true)", y -> y.setIndependent(5, 0, true), BAD_INDEX);
        refused("setIndependent(-1, 0, true)", y -> y.setIndependent(-1, 0, true), BAD_INDEX);
        refused("setIndependent(0, -1, false)", y -> y.setIndependent(0, -1, false), BAD_INDEX);
        refused("independent(5)", y -> y.independent(5), BAD_INDEX);
        refused("different(-1)", y -> y.different(-1), BAD_VALUE);
        refused("different(17)", y -> y.different(17), BAD_VALUE);
    }

    private static void refusedForWords() {
        refused("add(6, 0)", y -> y.add(6, 0), BAD_INDEX);
        refused("add(1, 5)", y -> y.add(1, 5), BAD_INDEX);
        refused("add(1, -1)", y -> y.add(1, -1), BAD_INDEX);
        refused("add(0, 0)", y -> y.add(0, 0), FULL);
        refused("clear(6)", y -> y.clear(6), BAD_INDEX);
        refused("clear(-1)", y -> y.clear(-1), BAD_INDEX);
        refused("length(6)", y -> y.length(6), BAD_INDEX);
        refused("letter(6, 0)", y -> y.letter(6, 0), BAD_INDEX);
        refused("normal(6, 0)", y -> y.normal(6, 0), BAD_INDEX);
        refused("layers(6)", y -> y.layers(6), BAD_INDEX);
        refused("layer(6, 0)", y -> y.layer(6, 0), BAD_INDEX);
        refused("projected(6, 0, 1, 0)", y -> y.projected(6, 0, 1, 0), BAD_INDEX);
        refused("projected(0, 5, 1, 0)", y -> y.projected(0, 5, 1, 0), BAD_INDEX);
        refused("projected(0, 0, 5, 0)", y -> y.projected(0, 0, 5, 0), BAD_INDEX);
        refused("alikeWords(6)", y -> y.alikeWords(6), BAD_INDEX);
    }

    private static void refusedComparisons() {
        refused("alike(6, 0)", y -> y.alike(6, 0), BAD_INDEX);
        refused("alike(0, 6)", y -> y.alike(0, 6), BAD_INDEX);
        refused("commute(6, 0)", y -> y.commute(6, 0), BAD_INDEX);
        refused("commute(0, 6)", y -> y.commute(0, 6), BAD_INDEX);
        refused("connected(6)", y -> y.connected(6), BAD_INDEX);
        refused("isPrefix(6, 0)", y -> y.isPrefix(6, 0), BAD_INDEX);
        refused("isPrefix(0, 6)", y -> y.isPrefix(0, 6), BAD_INDEX);
        refused("isFactor(6, 0)", y -> y.isFactor(6, 0), BAD_INDEX);
        refused("isFactor(0, 6)", y -> y.isFactor(0, 6), BAD_INDEX);
        refused("exponent(6)", y -> y.exponent(6), BAD_INDEX);
        refused("exponent(3)", y -> y.exponent(3), NOT_POSSIBLE);
    }

    private static void refusedResults() {
        refused("product(6, 1, 2)", y -> y.product(6, 1, 2), BAD_INDEX);
        refused("product(1, 6, 2)", y -> y.product(1, 6, 2), BAD_INDEX);
        refused("product(1, 2, 6)", y -> y.product(1, 2, 6), BAD_INDEX);
        refused("product(0, 1, 2)", y -> y.product(0, 1, 2), FULL);
        refused("product(0, 0, 0)", y -> y.product(0, 0, 0), FULL);
        refused("quotient(6, 1, 2)", y -> y.quotient(6, 1, 2), BAD_INDEX);
        refused("quotient(1, 6, 2)", y -> y.quotient(1, 6, 2), BAD_INDEX);
        refused("quotient(3, 1, 6)", y -> y.quotient(3, 1, 6), BAD_INDEX);
        refused("quotient(1, 2, 4)", y -> y.quotient(1, 2, 4), NOT_POSSIBLE);
        refused("quotient(1, 2, 2)", y -> y.quotient(1, 2, 2), NOT_POSSIBLE);
        refused("commonPrefix(6, 1, 2)", y -> y.commonPrefix(6, 1, 2), BAD_INDEX);
        refused("commonPrefix(1, 6, 2)", y -> y.commonPrefix(1, 6, 2), BAD_INDEX);
        refused("commonPrefix(1, 2, 6)", y -> y.commonPrefix(1, 2, 6), BAD_INDEX);
        refused("commonMultiple(6, 1, 2)", y -> y.commonMultiple(6, 1, 2), BAD_INDEX);
        refused("commonMultiple(1, 6, 2)", y -> y.commonMultiple(1, 6, 2), BAD_INDEX);
        refused("commonMultiple(1, 1, 6)", y -> y.commonMultiple(1, 1, 6), BAD_INDEX);
        refused("commonMultiple(1, 2, 4)", y -> y.commonMultiple(1, 2, 4), NOT_POSSIBLE);
        refused("commonMultiple(0, 5, 4)", y -> y.commonMultiple(0, 5, 4), FULL);
        refused("root(6, 1)", y -> y.root(6, 1), BAD_INDEX);
        refused("root(1, 6)", y -> y.root(1, 6), BAD_INDEX);
        refused("root(3, 4)", y -> y.root(3, 4), NOT_POSSIBLE);
        refused("reverse(6, 1)", y -> y.reverse(6, 1), BAD_INDEX);
        refused("reverse(1, 6)", y -> y.reverse(1, 6), BAD_INDEX);
    }

    private static void refusedForTexts() {
        refused("append(-1)", y -> y.append(-1), BAD_VALUE);
        refused("append(128)", y -> y.append(128), BAD_VALUE);
        refused("append('a') to a full text", FULL_AND_FAULTY, y -> y.append('a'), FULL);
        refused("append(')') to a full text without a fault", "a".repeat(80), y -> y.append(')'), FULL);
        refused("matches(6)", "ab", y -> y.matches(6), BAD_INDEX);
        refused("matches(0)", y -> y.matches(0), NOT_POSSIBLE);
        refused("starConnected()", y -> y.starConnected(), NOT_POSSIBLE);
        refused("shortest()", y -> y.shortest(), NOT_POSSIBLE);
    }

    private static void refusedForRecognisers() {
        refused("setStates(0)", y -> y.setStates(0), BAD_VALUE);
        refused("setStates(7)", y -> y.setStates(7), BAD_VALUE);
        refused("setArrow(3, 0, 0)", y -> y.setArrow(3, 0, 0), BAD_INDEX);
        refused("setArrow(-1, 0, 0)", y -> y.setArrow(-1, 0, 0), BAD_INDEX);
        refused("setArrow(0, 5, 1)", y -> y.setArrow(0, 5, 1), BAD_INDEX);
        refused("setArrow(1, -1, 1)", y -> y.setArrow(1, -1, 1), BAD_INDEX);
        refused("setArrow(0, 0, 3)", y -> y.setArrow(0, 0, 3), BAD_INDEX);
        refused("setArrow(0, 0, -1)", y -> y.setArrow(0, 0, -1), BAD_INDEX);
        refused("setAccepting(3, true)", y -> y.setAccepting(3, true), BAD_INDEX);
        refused("setAccepting(-1, true)", y -> y.setAccepting(-1, true), BAD_INDEX);
        refused("acceptedAlike(6)", y -> y.acceptedAlike(6), BAD_INDEX);
    }

    private static void refusedForSlots() {
        refused("save(2)", y -> y.save(2), BAD_INDEX);
        refused("save(-1)", y -> y.save(-1), BAD_INDEX);
        refused("restore(2)", y -> y.restore(2), BAD_INDEX);
        refused("restore(-1)", y -> y.restore(-1), BAD_INDEX);
        refused("restore(1)", y -> y.restore(1), NOT_POSSIBLE);
    }
}
