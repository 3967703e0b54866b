import java.math.BigInteger;

/** The boundary cases of promises 39 to 41, a test for each sentence that names one. */
public final class SlotsBoundaryTest extends Boundaries {
    public static void main(String[] args) {
        save();
        restore();
        checksum();
        finish(39, 41);
    }

    private static void save() {
        String saves = "Saves the letters, their independence, the words and the recogniser, in place of what the slot keeps.";
        edge(39, saves, "a new object, in an empty slot", () -> {
            due("save(0)", x.save(0), 4);
            letters(6, "ab");
            put(0, "a");
            due("restore(0)", x.restore(0), 4);
            due("independent(0)", x.independent(0), 0);
            due("length(0)", x.length(0), 0);
        });
        edge(39, saves, "all that it names, at its greatest", () -> {
            letters(6, ALL_SIX);
            put(0, "fedcba");
            put(5, "f".repeat(16));
            x.setStates(6);
            lead("0a5 5f0");
            x.setAccepting(0, true);
            x.setAccepting(5, true);
            x.save(1);
            x.setLetters(2);
            due("restore(1)", x.restore(1), 6);
            for (int letter = 0; letter < 6; letter++) {
                due("independent(" + letter + ")", x.independent(letter), 63 - (1 << letter));
            }
            dueWord(0, "fedcba");
            dueWord(5, "f".repeat(16));
            due("setArrow(0, 0, 0)", x.setArrow(0, 0, 0), 5);
            due("setArrow(5, 5, 5)", x.setArrow(5, 5, 5), 0);
            due("setAccepting(0, true)", x.setAccepting(0, true), 1);
            due("setAccepting(5, true)", x.setAccepting(5, true), 1);
            due("setAccepting(1, true)", x.setAccepting(1, true), 0);
            due("setStates(1)", x.setStates(1), 6);
        });
        edge(39, "in place of what the slot keeps", "a fuller setting is replaced by an emptier one, in this slot alone", () -> {
            letters(6, ALL_SIX);
            put(0, A16);
            x.setStates(6);
            x.setAccepting(0, true);
            x.save(0);
            x.save(1);
            x.setLetters(2);
            x.save(0);
            x.restore(1);
            due("length(0)", x.length(0), 16);
            due("restore(0)", x.restore(0), 2);
            due("independent(0)", x.independent(0), 0);
            due("length(0)", x.length(0), 0);
            due("setAccepting(0, false)", x.setAccepting(0, false), 0);
            due("setStates(1)", x.setStates(1), 1);
        });
        edge(39, saves, "nothing else changes, and the text is not saved", () -> {
            write("ab");
            put(0, "ab");
            x.save(0);
            dueWord(0, "ab");
            due("clearText()", x.clearText(), 2);
            x.restore(0);
            due("clearText()", x.clearText(), 0);
        });
        edge(39, "slot: 0 or 1", "both slots, each by itself", () -> {
            put(0, "a");
            due("save(0)", x.save(0), 4);
            put(0, "bb");
            due("save(1)", x.save(1), 4);
            x.restore(0);
            dueWord(0, "a");
            x.restore(1);
            dueWord(0, "bb");
        });
        edge(39, "Returns the number of letters", "2 and 6", () -> {
            x.setLetters(2);
            due("save(0)", x.save(0), 2);
            x.setLetters(6);
            due("save(0)", x.save(0), 6);
        });
        edge(39, "BAD_INDEX", "below 0 and above 1", () -> dueOutside(0, 1, "save(?)", s -> x.save(s), BAD_INDEX));
    }

    private static void restore() {
        String makes = "Makes the letters, their independence, the words and the recogniser as they were saved.";
        edge(40, makes, "more letters than there are now", () -> {
            letters(6, "ef");
            put(5, "fe");
            x.setStates(6);
            lead("5f0");
            x.save(0);
            x.setLetters(2);
            x.restore(0);
            due("independent(5)", x.independent(5), 16);
            dueWord(5, "fe");
            due("setArrow(5, 5, 5)", x.setArrow(5, 5, 5), 0);
        });
        edge(40, makes, "fewer letters, shorter words and fewer states than there are now", () -> {
            x.setLetters(2);
            x.save(0);
            letters(6, ALL_SIX);
            put(0, A16);
            x.setStates(6);
            lead("0a5");
            x.setAccepting(0, true);
            x.restore(0);
            due("independent(0)", x.independent(0), 0);
            due("independent(2)", x.independent(2), BAD_INDEX);
            due("length(0)", x.length(0), 0);
            due("setArrow(0, 0, 0)", x.setArrow(0, 0, 0), 0);
            due("setAccepting(0, true)", x.setAccepting(0, true), 0);
            due("setStates(1)", x.setStates(1), 1);
        });
        edge(40, makes, "the words as they were, not their normal forms", () -> {
            free("ab");
            put(0, "ba");
            x.save(0);
            x.clear(0);
            x.restore(0);
            dueWord(0, "ba");
        });
        edge(40, makes, "the text stays as it is now, empty or full", () -> {
            write("a".repeat(80));
            x.save(0);
            x.clearText();
            x.restore(0);
            due("clearText()", x.clearText(), 0);
            write("b".repeat(80));
            x.restore(0);
            due("clearText()", x.clearText(), 80);
        });
        edge(40, "The slot keeps them.", "it can be restored twice, whatever has changed meanwhile", () -> {
            free("ab");
            put(0, "ba");
            x.setStates(2);
            x.setAccepting(1, true);
            x.save(1);
            for (int time = 0; time < 2; time++) {
                due("restore(1)", x.restore(1), 4);
                dueWord(0, "ba");
                due("independent(0)", x.independent(0), 2);
                due("setAccepting(1, false)", x.setAccepting(1, false), 1);
                due("setArrow(0, 0, 1)", x.setArrow(0, 0, 1), 0);
                x.setIndependent(0, 1, false);
                x.add(0, 3);
            }
        });
        edge(40, "slot: 0 or 1", "both slots", () -> {
            x.save(0);
            x.setLetters(5);
            x.save(1);
            due("restore(0)", x.restore(0), 4);
            due("restore(1)", x.restore(1), 5);
        });
        edge(40, "Returns the number of letters then", "2 and 6", () -> {
            x.setLetters(2);
            x.save(0);
            x.setLetters(6);
            x.save(1);
            due("restore(0)", x.restore(0), 2);
            due("restore(1)", x.restore(1), 6);
        });
        edge(40, "BAD_INDEX", "below 0 and above 1, also if both slots keep something", () -> {
            dueOutside(0, 1, "restore(?)", s -> x.restore(s), BAD_INDEX);
            x.save(0);
            x.save(1);
            dueOutside(0, 1, "restore(?)", s -> x.restore(s), BAD_INDEX);
        });
        edge(40, "NOT_POSSIBLE if nothing has been saved in the slot", "at first, in both slots", () -> {
            due("restore(0)", x.restore(0), NOT_POSSIBLE);
            due("restore(1)", x.restore(1), NOT_POSSIBLE);
        });
        edge(40, "NOT_POSSIBLE if nothing has been saved in the slot", "something has been saved in the other slot alone", () -> {
            x.save(1);
            due("restore(0)", x.restore(0), NOT_POSSIBLE);
            due("restore(1)", x.restore(1), 4);
            x.save(0);
            due("restore(0)", x.restore(0), 4);
        });
    }

    /** What h becomes, reckoned with numbers that have no limit and cut to 64 bits only at the end. */
    private static long checksumOf(long... values) {
        BigInteger h = BigInteger.valueOf(67);
        for (long value : values) {
            h = h.multiply(BigInteger.valueOf(31)).add(BigInteger.valueOf(value));
        }
        return h.longValue();
    }

    private static void checksum() {
        String starts = "It starts with h = 67; for each of the following values, in this order, h becomes 31 * h + value";
        edge(41, "Computes a checksum.", "that of a new object, and it changes nothing", () -> {
            long due = checksumOf(4, 0, 0, 0, 0,
                0, 1, 1, 0, 0, 1, 1, 0, 0, 1, 1, 0, 0, 1, 1, 0, 0, 1, 1, 0, 0, 1, 1, 0, NONE, 1);
            due("checksum()", x.checksum(), due);
            due("checksum()", x.checksum(), due);
        });
        edge(41, starts, "two letters, of which one word has both, and a broken diamond", () -> {
            letters(2, "ab");
            put(5, "ba");
            x.setStates(3);
            lead("0a1 1b2");
            x.setAccepting(2, true);
            due("checksum()", x.checksum(), checksumOf(2, 2, 1,
                0, 1, 1, 0, 0, 1, 1, 0, 0, 1, 1, 0, 0, 1, 1, 0, 0, 1, 1, 0,
                2, 0, 1, 3, 2, 0, 1, 1, 0));
        });
        edge(41, starts, "six letters, a full word with sixteen layers, all accepted", () -> {
            letters(6, "");
            put(0, "fedcbafedcbafedc");
            x.setAccepting(0, true);
            due("checksum()", x.checksum(), checksumOf(6, 0, 0, 0, 0, 0, 0,
                16, 5, 4, 3, 2, 1, 0, 5, 4, 3, 2, 1, 0, 5, 4, 3, 2,
                32, 16, 8, 4, 2, 1, 32, 16, 8, 4, 2, 1, 32, 16, 8, 4, 1, 1, 1,
                0, 1, 1, 1, 0, 1, 1, 1, 0, 1, 1, 1, 0, 1, 1, 1, 0, 1, 1, 1, NONE, 1));
        });
        edge(41, "(as longs, with overflow)", "a value that no int holds, and a sum far beyond 64 bits", () -> {
            letters(6, ALL_SIX);
            put(5, "ffeedddcccbbbaaa");
            x.setAccepting(0, true);
            due("checksum()", x.checksum(), checksumOf(6, 62, 61, 59, 55, 47, 31,
                0, 1, 1, 1, 0, 1, 1, 1, 0, 1, 1, 1, 0, 1, 1, 1, 0, 1, 1, 1,
                16, 0, 0, 0, 1, 1, 1, 2, 2, 2, 3, 3, 3, 4, 4, 5, 5,
                63, 63, 15, 4036032000L, 0, 4036032000L, NONE, 1));
        });
        edge(41, starts, "the text and the slots do not count", () -> {
            long before = x.checksum();
            write("a".repeat(80));
            x.save(0);
            x.save(1);
            due("checksum()", x.checksum(), before);
        });
        edge(41, "Returns the checksum.", "words that are alike have the same one, others have not", () -> {
            free("ab");
            put(0, "ab");
            long before = x.checksum();
            put(0, "ba");
            due("checksum()", x.checksum(), before);
            put(0, "bb");
            due("the same checksum", x.checksum() == before ? 1 : 0, 0);
        });
    }
}
