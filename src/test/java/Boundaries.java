import java.util.ArrayList;
import java.util.List;

/**
 * What the boundary tests share. Each of them begins with a new object, names its promise (or the section
 * of the document) and quotes the sentence for which it stands. A quotation that the document does not
 * have is a failure, and so is a sentence for which no test stands.
 */
abstract class Boundaries {
    protected static final int BAD_INDEX = -1;
    protected static final int BAD_VALUE = -2;
    protected static final int NOT_POSSIBLE = -3;
    protected static final int FULL = -4;
    protected static final int NONE = -5;
    protected static final String ALL_SIX = "ab ac ad ae af bc bd be bf cd ce cf de df ef";
    protected static final String A16 = "a".repeat(16);

    /** The new object of the test that runs. */
    protected static CommutingWords x;

    private static final Document DOCUMENT = new Document();
    private static final List<String> QUOTED = new ArrayList<>();
    private static String test = "";
    private static boolean failed;
    private static int tests;
    private static int failures;

    protected interface Body {
        void run();
    }

    protected interface Call {
        long of(int argument);
    }

    // ---- tests

    protected static void edge(int promise, String sentence, String what, Body body) {
        edge("Promise " + promise, sentence, what, body);
    }

    protected static void edge(String section, String sentence, String what, Body body) {
        test = section + ", \"" + sentence + "\": " + what;
        failed = false;
        tests++;
        quote(section, sentence);
        x = new CommutingWords();
        body.run();
        failures += failed ? 1 : 0;
    }

    protected static void due(String call, long got, long want) {
        if (got != want) {
            fail(call + " answered " + got + ", due is " + want);
        }
    }

    protected static void fail(String fault) {
        failed = true;
        System.out.println(test + ": " + fault);
    }

    /** Ends the program, with a failure also for each sentence of these sections for which no test stands. */
    protected static void finish(String... sections) {
        for (String section : sections) {
            List<String> sentences = DOCUMENT.sentences(section);
            if (sentences.isEmpty()) {
                failures++;
                System.out.println("the document has no sentence in " + section);
            }
            for (String sentence : sentences) {
                if (!QUOTED.contains(section + sentence)) {
                    failures++;
                    System.out.println(section + ": no test stands for \"" + sentence + "\"");
                }
            }
        }
        System.out.println(tests + " boundaries tested, " + failures + " failed");
        System.exit(failures > 0 ? 1 : 0);
    }

    protected static void finish(int first, int last) {
        String[] sections = new String[last - first + 1];
        for (int i = 0; i < sections.length; i++) {
            sections[i] = "Promise " + (first + i);
        }
        finish(sections);
    }

    private static void quote(String section, String quotation) {
        int found = 0;
        for (String sentence : DOCUMENT.sentences(section)) {
            if (sentence.contains(quotation)) {
                QUOTED.add(section + sentence);
                found++;
            }
        }
        if (found != 1) {
            fail("this stands in " + found + " sentences of the document");
        }
    }

    // ---- what the tests do with the new object

    protected static void letters(int count, String pairs) {
        x.setLetters(count);
        free(pairs);
    }

    /** Makes pairs of letters independent, such as "ac bd". */
    protected static void free(String pairs) {
        for (String pair : pairs.split(" ")) {
            if (!pair.isEmpty()) {
                x.setIndependent(pair.charAt(0) - 'a', pair.charAt(1) - 'a', true);
            }
        }
    }

    protected static void put(int word, String letters) {
        x.clear(word);
        for (char c : letters.toCharArray()) {
            x.add(word, c - 'a');
        }
    }

    protected static void write(String text) {
        x.clearText();
        for (char c : text.toCharArray()) {
            x.append(c);
        }
    }

    /** Leads arrows, each one written as in "0a1": from state 0 with the letter a to state 1. */
    protected static void lead(String arrows) {
        for (String arrow : arrows.split(" ")) {
            x.setArrow(arrow.charAt(0) - '0', arrow.charAt(1) - 'a', arrow.charAt(2) - '0');
        }
    }

    protected static void dueWord(int word, String letters) {
        due("length(" + word + ")", x.length(word), letters.length());
        for (int i = 0; i < letters.length(); i++) {
            due("letter(" + word + ", " + i + ")", x.letter(word, i), letters.charAt(i) - 'a');
        }
    }

    protected static void dueNormal(int word, String letters) {
        for (int i = 0; i < letters.length(); i++) {
            due("normal(" + word + ", " + i + ")", x.normal(word, i), letters.charAt(i) - 'a');
        }
        due("normal(" + word + ", " + letters.length() + ")", x.normal(word, letters.length()), NONE);
    }

    /** Every number just outside a range, and numbers that a narrower type or a sign would bring back into it. */
    protected static void dueOutside(int lowest, int highest, String call, Call made, long want) {
        int[] outside = {lowest - 1, highest + 1, highest + 2, lowest + 256, lowest + 65536, lowest - 256,
            -highest - 1, Integer.MIN_VALUE, Integer.MIN_VALUE + lowest, Integer.MAX_VALUE};
        for (int argument : outside) {
            due(call.replace("?", "" + argument), made.of(argument), want);
        }
    }

    /** A call with a word as its argument: words 0 and 5 are there, so that the answer is no error. */
    protected static void dueForWords(String call, Call made, long first, long last) {
        due(call.replace("?", "0"), made.of(0), first);
        due(call.replace("?", "5"), made.of(5), last);
    }

    protected static void dueNoWords(String call, Call made) {
        dueOutside(0, 5, call, made, BAD_INDEX);
    }
}
