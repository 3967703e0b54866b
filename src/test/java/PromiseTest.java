/** For each promise calls with answers worked out by hand: ordinary ones, edges and wrong arguments. */
public final class PromiseTest {
    private static final int BAD_INDEX = -1;
    private static final int BAD_VALUE = -2;
    private static final int NOT_POSSIBLE = -3;
    private static final int FULL = -4;
    private static final int NONE = -5;
    private static final int[] NO_WORDS = {-1, 6, 7, Integer.MIN_VALUE, Integer.MAX_VALUE};

    private static int promise;
    private static int made;
    private static int wrong;
    private static CommutingWords x;

    private static void due(String call, long got, long want) {
        made++;
        if (got != want) {
            wrong++;
            System.out.println("promise " + promise + ": " + call + " answered " + got + ", due is " + want);
        }
    }

    /** A fresh object, with pairs of independent letters such as "ac bd". */
    private static void fresh(int number, int letters, String pairs) {
        promise = number;
        x = new CommutingWords();
        x.setLetters(letters);
        free(pairs);
    }

    private static void free(String pairs) {
        for (String pair : pairs.split(" ")) {
            if (!pair.isEmpty()) {
                x.setIndependent(pair.charAt(0) - 'a', pair.charAt(1) - 'a', true);
            }
        }
    }

    private static void put(int word, String letters) {
        x.clear(word);
        for (char c : letters.toCharArray()) {
            x.add(word, c - 'a');
        }
    }

    private static void write(String text) {
        x.clearText();
        for (char c : text.toCharArray()) {
            x.append(c);
        }
    }

    private static void dueWord(int word, String letters) {
        due("length(" + word + ")", x.length(word), letters.length());
        for (int i = 0; i < letters.length(); i++) {
            due("letter(" + word + ", " + i + ")", x.letter(word, i), letters.charAt(i) - 'a');
        }
        due("letter(" + word + ", end)", x.letter(word, letters.length()), NONE);
    }

    public static void main(String[] args) {
        letters();
        wordsAsTheyAre();
        forms();
        comparisons();
        productsAndQuotients();
        prefixesAndMultiples();
        rootsAndReverses();
        texts();
        faults();
        matching();
        stars();
        arrows();
        diamonds();
        slots();
        checksums();
        errorsChangeNothing();
        System.out.println(made + " answers looked at, " + wrong + " wrong");
        if (wrong > 0) {
            System.exit(1);
        }
    }

    private static void letters() {
        promise = 1;
        x = new CommutingWords();
        due("independent(3)", x.independent(3), 0);
        due("independent(4)", x.independent(4), BAD_INDEX);
        for (int w = 0; w < 6; w++) {
            due("length", x.length(w), 0);
        }
        due("faultPosition", x.faultPosition(), 0);
        due("clearText", x.clearText(), 0);
        due("restore(0)", x.restore(0), NOT_POSSIBLE);
        due("restore(1)", x.restore(1), NOT_POSSIBLE);
        due("setAccepting(0)", x.setAccepting(0, false), 0);
        due("setAccepting(1)", x.setAccepting(1, true), BAD_INDEX);
        due("setStates(1)", x.setStates(1), 1);

        promise = 2;
        x = new CommutingWords();
        due("setLetters(1)", x.setLetters(1), BAD_VALUE);
        due("setLetters(7)", x.setLetters(7), BAD_VALUE);
        due("setLetters(-1)", x.setLetters(-1), BAD_VALUE);
        due("setLetters(2)", x.setLetters(2), 4);
        due("setLetters(6)", x.setLetters(6), 2);
        free("ab ef");
        put(5, "fed");
        write("f");
        x.setStates(3);
        x.setArrow(0, 0, 2);
        x.setAccepting(0, true);
        x.save(1);
        due("setLetters(6)", x.setLetters(6), 6);
        due("independent(0)", x.independent(0), 0);
        due("independent(5)", x.independent(5), 0);
        due("length(5)", x.length(5), 0);
        due("setAccepting(0)", x.setAccepting(0, false), 0);
        due("setArrow(0, 0, 0)", x.setArrow(0, 0, 0), 0);
        due("setStates(1)", x.setStates(1), 1);
        due("faultPosition", x.faultPosition(), NONE);
        due("setLetters(5)", x.setLetters(5), 6);
        due("faultPosition", x.faultPosition(), 0);
        due("restore(1)", x.restore(1), 6);
        due("length(5)", x.length(5), 3);

        fresh(3, 3, "");
        due("setIndependent", x.setIndependent(0, 2, true), 0);
        due("setIndependent", x.setIndependent(2, 0, true), 1);
        put(0, "cacb");
        due("setIndependent", x.setIndependent(2, 0, false), 1);
        due("setIndependent", x.setIndependent(0, 2, false), 0);
        dueWord(0, "cacb");
        due("setIndependent same", x.setIndependent(1, 1, true), BAD_INDEX);
        due("setIndependent", x.setIndependent(0, 3, true), BAD_INDEX);
        due("setIndependent", x.setIndependent(3, 0, true), BAD_INDEX);
        due("setIndependent", x.setIndependent(-1, 0, true), BAD_INDEX);
        due("setIndependent", x.setIndependent(0, -1, true), BAD_INDEX);

        fresh(4, 6, "af bf ef");
        due("independent(5)", x.independent(5), 19);
        due("independent(0)", x.independent(0), 32);
        due("independent(2)", x.independent(2), 0);
        due("independent(6)", x.independent(6), BAD_INDEX);
        due("independent(-1)", x.independent(-1), BAD_INDEX);

        fresh(5, 6, "");
        due("different(0)", x.different(0), 1);
        due("different(16)", x.different(16), 2821109907456L);
        due("different(-1)", x.different(-1), BAD_VALUE);
        due("different(17)", x.different(17), BAD_VALUE);
        free("ab ac ad ae af bc bd be bf cd ce cf de df ef");
        due("different(1)", x.different(1), 6);
        due("different(2)", x.different(2), 21);
        due("different(16)", x.different(16), 20349);
        fresh(5, 2, "ab");
        due("different(16)", x.different(16), 17);
        fresh(5, 4, "ac bd");
        due("different(2)", x.different(2), 14);
        due("different(3)", x.different(3), 48);
    }

    private static void wordsAsTheyAre() {
        fresh(6, 3, "ab");
        for (int i = 1; i <= 16; i++) {
            due("add", x.add(0, i % 3), i);
        }
        due("add to full", x.add(0, 0), FULL);
        due("add to full, bad letter", x.add(0, 3), BAD_INDEX);
        due("add", x.add(1, 3), BAD_INDEX);
        due("add", x.add(1, -1), BAD_INDEX);
        due("length(0)", x.length(0), 16);
        due("length(1)", x.length(1), 0);
        due("add(5, 2)", x.add(5, 2), 1);

        promise = 7;
        due("clear(0)", x.clear(0), 16);
        due("clear(0)", x.clear(0), 0);
        due("length(5)", x.length(5), 1);
        promise = 9;
        put(2, "bab");
        dueWord(2, "bab");
        due("letter(2, -1)", x.letter(2, -1), NONE);
        due("letter(2, 16)", x.letter(2, 16), NONE);
        due("letter(2, max)", x.letter(2, Integer.MAX_VALUE), NONE);
        for (int w : NO_WORDS) {
            promise = 6;
            due("add", x.add(w, 0), BAD_INDEX);
            promise = 7;
            due("clear", x.clear(w), BAD_INDEX);
            promise = 8;
            due("length", x.length(w), BAD_INDEX);
            promise = 9;
            due("letter", x.letter(w, -1), BAD_INDEX);
        }
    }

    private static void forms() {
        fresh(10, 4, "ad bd");
        put(0, "dcdba");
        String normal = "dcbad";
        for (int i = 0; i < 5; i++) {
            due("normal(0, " + i + ")", x.normal(0, i), normal.charAt(i) - 'a');
        }
        due("normal(0, 5)", x.normal(0, 5), NONE);
        due("normal(0, -1)", x.normal(0, -1), NONE);
        due("normal(1, 0)", x.normal(1, 0), NONE);
        dueWord(0, "dcdba");

        promise = 11;
        due("layers(1)", x.layers(1), 0);
        due("layers(0)", x.layers(0), 4);
        promise = 12;
        due("layer(0, 0)", x.layer(0, 0), 8);
        due("layer(0, 1)", x.layer(0, 1), 4);
        due("layer(0, 2)", x.layer(0, 2), 10);
        due("layer(0, 3)", x.layer(0, 3), 1);
        due("layer(0, 4)", x.layer(0, 4), NONE);
        due("layer(0, -1)", x.layer(0, -1), NONE);
        due("layer(1, 0)", x.layer(1, 0), NONE);

        promise = 13;
        due("projected(0, 0, 3, 0)", x.projected(0, 0, 3, 0), 3);
        due("projected(0, 3, 0, 2)", x.projected(0, 3, 0, 2), 0);
        due("projected(0, 0, 3, 3)", x.projected(0, 0, 3, 3), NONE);
        due("projected(0, 3, 3, 1)", x.projected(0, 3, 3, 1), 3);
        due("projected(0, 3, 3, 2)", x.projected(0, 3, 3, 2), NONE);
        due("projected(0, 3, 3, -1)", x.projected(0, 3, 3, -1), NONE);
        due("projected(0, 4, 3, 0)", x.projected(0, 4, 3, 0), BAD_INDEX);
        due("projected(0, 3, -1, 0)", x.projected(0, 3, -1, 0), BAD_INDEX);

        fresh(14, 6, "ab ac ad ae af bc bd be bf cd ce cf de df ef");
        put(0, "fffeeedddcccbbaa");
        due("alikeWords(0)", x.alikeWords(0), 4036032000L);
        due("alikeWords(1)", x.alikeWords(1), 1);
        put(1, "abcdef");
        due("alikeWords(1)", x.alikeWords(1), 720);
        put(2, "aaaaaaaabbbbbbbb");
        due("alikeWords(2)", x.alikeWords(2), 12870);
        x.setIndependent(0, 1, false);
        due("alikeWords(2)", x.alikeWords(2), 1);
        for (int w : NO_WORDS) {
            promise = 10;
            due("normal", x.normal(w, -1), BAD_INDEX);
            promise = 11;
            due("layers", x.layers(w), BAD_INDEX);
            promise = 12;
            due("layer", x.layer(w, -1), BAD_INDEX);
            promise = 13;
            due("projected", x.projected(w, 0, 1, -1), BAD_INDEX);
            promise = 14;
            due("alikeWords", x.alikeWords(w), BAD_INDEX);
        }
    }

    private static void comparisons() {
        fresh(15, 4, "ac bd");
        put(0, "caab");
        put(1, "aacb");
        due("alike(0, 1)", x.alike(0, 1), 1);
        due("alike(2, 3)", x.alike(2, 3), 1);
        due("alike(0, 2)", x.alike(0, 2), 0);
        due("alike(2, 0)", x.alike(2, 0), 0);
        put(2, "aabc");
        due("alike(0, 2)", x.alike(0, 2), 0);
        put(2, "caa");
        due("alike(2, 0)", x.alike(2, 0), 0);
        due("alike(0, 2)", x.alike(0, 2), 0);

        promise = 16;
        put(0, "ac");
        put(1, "ca");
        put(2, "ab");
        put(3, "aacc");
        due("commute(0, 1)", x.commute(0, 1), 1);
        due("commute(0, 2)", x.commute(0, 2), 0);
        due("commute(0, 3)", x.commute(0, 3), 1);
        due("commute(0, 4)", x.commute(0, 4), 1);
        put(4, "aaaaaaaaaaaaaaaa");
        put(5, "cccccccccccccccc");
        due("commute(4, 5)", x.commute(4, 5), 1);
        put(5, "cccccccccccccccb");
        due("commute(4, 5)", x.commute(4, 5), 0);
        due("commute(5, 5)", x.commute(5, 5), 1);

        promise = 17;
        due("connected(0)", x.connected(0), 0);
        due("connected(2)", x.connected(2), 1);
        put(2, "acb");
        due("connected(2)", x.connected(2), 1);
        x.clear(2);
        due("connected(2)", x.connected(2), 1);
        put(2, "aa");
        due("connected(2)", x.connected(2), 1);

        promise = 18;
        put(0, "c");
        put(1, "aacb");
        put(2, "b");
        due("isPrefix(0, 1)", x.isPrefix(0, 1), 1);
        due("isPrefix(2, 1)", x.isPrefix(2, 1), 0);
        due("isPrefix(1, 0)", x.isPrefix(1, 0), 0);
        due("isPrefix(3, 1)", x.isPrefix(1, 1), 1);
        x.clear(3);
        due("isPrefix(3, 0)", x.isPrefix(3, 0), 1);

        promise = 19;
        put(0, "ba");
        put(1, "abcacd");
        due("isFactor(0, 1)", x.isFactor(0, 1), 1);
        put(0, "ab");
        due("isFactor(0, 1)", x.isFactor(0, 1), 1);
        put(0, "bd");
        due("isFactor(0, 1)", x.isFactor(0, 1), 0);
        put(0, "cc");
        due("isFactor(0, 1)", x.isFactor(0, 1), 1);
        put(0, "aa");
        due("isFactor(0, 1)", x.isFactor(0, 1), 0);
        due("isFactor(3, 1)", x.isFactor(3, 1), 1);
        due("isFactor(3, 3)", x.isFactor(3, 3), 1);
        due("isFactor(1, 3)", x.isFactor(1, 3), 0);

        for (int w : NO_WORDS) {
            promise = 15;
            due("alike", x.alike(w, 0), BAD_INDEX);
            due("alike", x.alike(0, w), BAD_INDEX);
            promise = 16;
            due("commute", x.commute(w, 0), BAD_INDEX);
            due("commute", x.commute(0, w), BAD_INDEX);
            promise = 17;
            due("connected", x.connected(w), BAD_INDEX);
            promise = 18;
            due("isPrefix", x.isPrefix(w, 0), BAD_INDEX);
            due("isPrefix", x.isPrefix(0, w), BAD_INDEX);
            promise = 19;
            due("isFactor", x.isFactor(w, 0), BAD_INDEX);
            due("isFactor", x.isFactor(0, w), BAD_INDEX);
            promise = 20;
            due("exponent", x.exponent(w), BAD_INDEX);
        }
    }

    private static void productsAndQuotients() {
        fresh(21, 4, "ac bd");
        put(0, "cd");
        put(1, "ba");
        due("product(0, 1, 2)", x.product(0, 1, 2), 4);
        dueWord(2, "cbda");
        dueWord(0, "cd");
        due("product(0, 0, 0)", x.product(0, 0, 0), 4);
        dueWord(0, "cdcd");
        put(3, "ca");
        due("product(3, 4, 3)", x.product(3, 4, 3), 2);
        dueWord(3, "ac");
        put(4, "aaaaaaaaaaaaaaa");
        put(5, "b");
        due("product(4, 5, 5)", x.product(4, 5, 5), 16);
        due("product(4, 3, 5)", x.product(4, 3, 5), FULL);
        dueWord(5, "aaaaaaaaaaaaaaab");
        due("product bad", x.product(5, 5, 6), BAD_INDEX);

        promise = 22;
        put(0, "c");
        put(1, "adacdb");
        due("quotient(0, 1, 2)", x.quotient(0, 1, 2), NOT_POSSIBLE);
        put(0, "a");
        due("quotient(0, 1, 1)", x.quotient(0, 1, 1), 5);
        dueWord(1, "dacbd");
        due("quotient(1, 1, 0)", x.quotient(1, 1, 0), 0);
        dueWord(0, "");
        due("quotient(0, 1, 0)", x.quotient(0, 1, 0), 5);
        dueWord(0, "dacbd");
        due("quotient bad", x.quotient(0, 2, 6), BAD_INDEX);
        for (int w : NO_WORDS) {
            promise = 21;
            due("product", x.product(w, 0, 1), BAD_INDEX);
            due("product", x.product(0, w, 1), BAD_INDEX);
            due("product", x.product(0, 1, w), BAD_INDEX);
            promise = 22;
            due("quotient", x.quotient(w, 0, 1), BAD_INDEX);
            due("quotient", x.quotient(0, w, 1), BAD_INDEX);
            due("quotient", x.quotient(0, 1, w), BAD_INDEX);
        }
    }

    private static void prefixesAndMultiples() {
        fresh(23, 4, "ac bd");
        put(0, "cabd");
        put(1, "acdd");
        due("commonPrefix(0, 1, 2)", x.commonPrefix(0, 1, 2), 3);
        dueWord(2, "acd");
        put(3, "b");
        due("commonPrefix(0, 3, 3)", x.commonPrefix(0, 3, 3), 0);
        dueWord(3, "");
        due("commonPrefix(0, 0, 0)", x.commonPrefix(0, 0, 0), 4);
        dueWord(0, "acbd");
        put(4, "cacadbcacadbcaca");
        due("commonPrefix(4, 4, 5)", x.commonPrefix(4, 4, 5), 16);
        dueWord(5, "aaccbdaaccbdaacc");

        promise = 24;
        put(0, "dba");
        put(1, "bda");
        due("commonMultiple(0, 1, 2)", x.commonMultiple(0, 1, 2), 3);
        dueWord(2, "bda");
        put(0, "dbb");
        put(1, "ddd");
        due("commonMultiple(0, 1, 1)", x.commonMultiple(0, 1, 1), 5);
        dueWord(1, "bbddd");
        put(0, "ab");
        put(1, "cd");
        due("commonMultiple(0, 1, 2)", x.commonMultiple(0, 1, 2), NOT_POSSIBLE);
        x.clear(3);
        due("commonMultiple(1, 3, 4)", x.commonMultiple(1, 3, 4), 2);
        due("commonMultiple(3, 3, 4)", x.commonMultiple(3, 3, 4), 0);
        put(0, "aaaaaaaaa");
        put(1, "ccccccc");
        due("commonMultiple(0, 1, 2)", x.commonMultiple(0, 1, 2), 16);
        dueWord(2, "aaaaaaaaaccccccc");
        put(1, "cccccccc");
        due("commonMultiple(0, 1, 2)", x.commonMultiple(0, 1, 2), FULL);
        dueWord(2, "aaaaaaaaaccccccc");
        put(1, "cccccccbccc");
        due("commonMultiple(0, 1, 2)", x.commonMultiple(0, 1, 2), NOT_POSSIBLE);
        for (int w : NO_WORDS) {
            promise = 23;
            due("commonPrefix", x.commonPrefix(w, 0, 1), BAD_INDEX);
            due("commonPrefix", x.commonPrefix(0, w, 1), BAD_INDEX);
            due("commonPrefix", x.commonPrefix(0, 1, w), BAD_INDEX);
            promise = 24;
            due("commonMultiple", x.commonMultiple(w, 0, 1), BAD_INDEX);
            due("commonMultiple", x.commonMultiple(0, w, 1), BAD_INDEX);
            due("commonMultiple", x.commonMultiple(0, 1, w), BAD_INDEX);
        }
    }

    private static void rootsAndReverses() {
        fresh(20, 3, "ac");
        due("exponent empty", x.exponent(0), NOT_POSSIBLE);
        put(0, "aaaaaaaaaaaaaaaa");
        due("exponent(0)", x.exponent(0), 16);
        put(0, "aacaacc");
        due("exponent(0)", x.exponent(0), 1);
        put(0, "aacaccaacacc");
        due("exponent(0)", x.exponent(0), 6);
        put(0, "acbcab");
        due("exponent(0)", x.exponent(0), 2);
        put(0, "abcbac");
        due("exponent(0)", x.exponent(0), 1);
        put(0, "abab");
        due("exponent(0)", x.exponent(0), 2);
        put(0, "abba");
        due("exponent(0)", x.exponent(0), 1);

        promise = 25;
        put(0, "cabcab");
        due("root(0, 1)", x.root(0, 1), 3);
        dueWord(1, "acb");
        put(0, "cba");
        due("root(0, 0)", x.root(0, 0), 3);
        dueWord(0, "cba");
        put(0, "ccaa");
        due("root(0, 0)", x.root(0, 0), 2);
        dueWord(0, "ac");
        due("root empty", x.root(5, 0), NOT_POSSIBLE);
        dueWord(0, "ac");
        due("root bad", x.root(5, 6), BAD_INDEX);

        promise = 26;
        put(0, "acb");
        due("reverse(0, 1)", x.reverse(0, 1), 3);
        dueWord(1, "bac");
        due("reverse(1, 1)", x.reverse(1, 1), 3);
        dueWord(1, "acb");
        due("reverse(5, 1)", x.reverse(5, 1), 0);
        dueWord(1, "");
        for (int w : NO_WORDS) {
            promise = 25;
            due("root", x.root(w, 0), BAD_INDEX);
            due("root", x.root(0, w), BAD_INDEX);
            promise = 26;
            due("reverse", x.reverse(w, 0), BAD_INDEX);
            due("reverse", x.reverse(0, w), BAD_INDEX);
        }
    }

    private static void texts() {
        fresh(27, 2, "");
        due("append(-1)", x.append(-1), BAD_VALUE);
        due("append(128)", x.append(128), BAD_VALUE);
        due("append(0)", x.append(0), 1);
        due("append(127)", x.append(127), 2);
        for (int i = 3; i <= 80; i++) {
            due("append", x.append('a'), i);
        }
        due("append to full", x.append('a'), FULL);
        due("append 128 to full", x.append(128), BAD_VALUE);
        promise = 28;
        due("clearText", x.clearText(), 80);
        due("clearText", x.clearText(), 0);
        due("append", x.append('a'), 1);
    }

    private static void dueFault(String text, int want) {
        fresh(29, 3, "");
        dueFaultNow(text, want);
    }

    private static void dueFaultNow(String text, int want) {
        write(text);
        due("faultPosition of " + text, x.faultPosition(), want);
    }

    private static void faults() {
        dueFault("", 0);
        dueFault("a", NONE);
        dueFault("abc", NONE);
        dueFault("d", 0);
        dueFault("abd", 2);
        dueFault("A", 0);
        dueFault("0", 0);
        dueFault("a b", 1);
        dueFault("()", 1);
        dueFault("(a", 2);
        dueFault("(a+", 3);
        dueFault("(a))", 3);
        dueFault("a+", 2);
        dueFault("a++b", 2);
        dueFault("+a", 0);
        dueFault("*a", 0);
        dueFault("a**", NONE);
        dueFault("(*a)", 1);
        dueFault("a+*", 2);
        dueFault("(a+)b", 3);
        dueFault("1*(1+1)", NONE);
        dueFault("(".repeat(80), 80);
        dueFault("(".repeat(39) + "a" + ")".repeat(39), NONE);
        dueFault("(".repeat(39) + "a*" + ")".repeat(39), NONE);
        dueFault("c".repeat(80), NONE);
        dueFault("c".repeat(79) + "(", 80);
        dueFault("c".repeat(79) + ")", 79);
        dueFault("a" + "*".repeat(79), NONE);
        x.setLetters(6);
        dueFaultNow("abcdef", NONE);
        dueFaultNow("abcdefg", 6);
    }

    private static void dueMatch(String text, String word, int want) {
        fresh(30, 3, "ab");
        write(text);
        put(0, word);
        due(word + " matches " + text, x.matches(0), want);
    }

    private static void matching() {
        dueMatch("(ab)*c", "bbaac", 1);
        dueMatch("(ab)*c", "bbaca", 0);
        dueMatch("(ab)*c", "abbc", 0);
        dueMatch("1", "", 1);
        dueMatch("1", "a", 0);
        dueMatch("a*", "", 1);
        dueMatch("a", "", 0);
        dueMatch("(a+bc)*", "babcc", 0);
        dueMatch("(a+bc)*", "bacbc", 1);
        dueMatch("ba(1+c)", "ab", 1);
        dueMatch("ba(1+c)", "abc", 1);
        dueMatch("ba(1+c)", "abcc", 0);
        dueMatch("(1+a)*b*(c+1)", "abab", 1);
        dueMatch("c".repeat(16), "c".repeat(16), 1);
        dueMatch("c".repeat(17), "c".repeat(16), 0);
        dueMatch("c".repeat(70) + "+bacbacba", "abcabcab", 1);
        dueMatch("c".repeat(70) + "+bacbacba", "abcabcc", 0);
        dueMatch("(((ab)**)*c)*", "bac", 1);
        dueMatch("(".repeat(39) + "b" + ")".repeat(39), "b", 1);
        dueMatch("(ab)*(ab+ba)", "aaaaaaaabbbbbbbb", 1);
        dueMatch("(ab)*(bb+c)", "aaaaaaaabbbbbbbb", 0);
        for (int w : NO_WORDS) {
            due("matches", x.matches(w), BAD_INDEX);
        }
        write("a+");
        due("matches", x.matches(0), NOT_POSSIBLE);
        due("matches", x.matches(6), BAD_INDEX);
        write("c");
        put(0, "c");
        due("matches", x.matches(0), 1);
        x.setLetters(2);
        due("matches", x.matches(0), NOT_POSSIBLE);
    }

    private static void dueStars(String text, int want) {
        write(text);
        due("starConnected of " + text, x.starConnected(), want);
    }

    private static void dueShortest(String text, int want) {
        write(text);
        due("shortest of " + text, x.shortest(), want);
    }

    private static void stars() {
        fresh(31, 4, "ab bc ac");
        dueStars("ab", 1);
        dueStars("(ab)*", 0);
        dueStars("(a+b)*", 1);
        dueStars("(a+b)**", 0);
        dueStars("a**", 1);
        dueStars("(abd)*", 1);
        dueStars("(ab(1+d))*", 0);
        dueStars("(1)*", 1);
        dueStars("(a*b*)*", 0);
        dueStars("(a*d)*", 1);
        dueStars("(a*d*)*", 1);
        dueStars("(a+(b+c)*)*", 0);
        dueStars("((a+1)d(b+1))*c", 1);
        dueStars("c((a+1)d(b+1))*(ab)*", 0);
        dueStars("(", NOT_POSSIBLE);
        dueStars("", NOT_POSSIBLE);
        dueStars("e*", NOT_POSSIBLE);
        x.setIndependent(0, 1, false);
        dueStars("(ab)*", 1);
        dueStars("(abc)*", 0);
        x.setLetters(6);
        dueStars("(abcdef)*", 1);
        free("af bf cf df ef");
        dueStars("(abcde)*f", 1);
        dueStars("(abcde+f)*", 1);
        dueStars("((abcde+f)*)*", 0);

        promise = 32;
        dueShortest("1", 0);
        dueShortest("abc", 3);
        dueShortest("a*", 0);
        dueShortest("abc+de", 2);
        dueShortest("(abc+de)(a+bb)*f", 3);
        dueShortest("(a+1)(b+c)d*", 1);
        dueShortest("a".repeat(80), 80);
        dueShortest("a+", NOT_POSSIBLE);
        dueShortest("", NOT_POSSIBLE);
    }

    private static void arrows() {
        fresh(33, 3, "");
        due("setStates(0)", x.setStates(0), BAD_VALUE);
        due("setStates(7)", x.setStates(7), BAD_VALUE);
        due("setStates(6)", x.setStates(6), 1);
        due("setArrow(5, 2, 0)", x.setArrow(5, 2, 0), 5);
        due("setAccepting(5, true)", x.setAccepting(5, true), 0);
        due("setStates(6)", x.setStates(6), 6);
        due("setArrow(5, 2, 5)", x.setArrow(5, 2, 5), 5);
        due("setAccepting(5, false)", x.setAccepting(5, false), 0);
        due("setStates(2)", x.setStates(2), 6);

        promise = 34;
        due("setArrow(0, 0, 1)", x.setArrow(0, 0, 1), 0);
        due("setArrow(0, 0, 0)", x.setArrow(0, 0, 0), 1);
        due("setArrow(1, 0, 0)", x.setArrow(1, 0, 0), 1);
        due("setArrow(2, 0, 0)", x.setArrow(2, 0, 0), BAD_INDEX);
        due("setArrow(0, 3, 0)", x.setArrow(0, 3, 0), BAD_INDEX);
        due("setArrow(0, 0, 2)", x.setArrow(0, 0, 2), BAD_INDEX);
        due("setArrow(-1, 0, 0)", x.setArrow(-1, 0, 0), BAD_INDEX);
        due("setArrow(0, -1, 0)", x.setArrow(0, -1, 0), BAD_INDEX);
        due("setArrow(0, 0, -1)", x.setArrow(0, 0, -1), BAD_INDEX);

        promise = 35;
        due("setAccepting(1, true)", x.setAccepting(1, true), 0);
        due("setAccepting(1, true)", x.setAccepting(1, true), 1);
        due("setAccepting(1, false)", x.setAccepting(1, false), 1);
        due("setAccepting(1, false)", x.setAccepting(1, false), 0);
        due("setAccepting(2, true)", x.setAccepting(2, true), BAD_INDEX);
        due("setAccepting(-1, true)", x.setAccepting(-1, true), BAD_INDEX);
    }

    private static void diamonds() {
        // The recogniser accepts the words whose last letter is a.
        fresh(36, 3, "ab ac bc");
        x.setStates(2);
        x.setArrow(0, 0, 1);
        x.setArrow(1, 1, 0);
        x.setArrow(1, 2, 0);
        x.setAccepting(1, true);
        put(0, "abc");
        due("acceptedAlike(0)", x.acceptedAlike(0), 2);
        put(0, "aabbcc");
        due("acceptedAlike(0)", x.acceptedAlike(0), 30);
        due("acceptedAlike(1)", x.acceptedAlike(1), 0);
        x.setAccepting(0, true);
        due("acceptedAlike(0)", x.acceptedAlike(0), 90);
        due("acceptedAlike(1)", x.acceptedAlike(1), 1);
        for (int w : NO_WORDS) {
            due("acceptedAlike", x.acceptedAlike(w), BAD_INDEX);
        }

        promise = 37;
        due("brokenDiamond", x.brokenDiamond(), 1);
        x.setIndependent(0, 1, false);
        due("brokenDiamond", x.brokenDiamond(), 2);
        x.setIndependent(0, 2, false);
        due("brokenDiamond", x.brokenDiamond(), NONE);
        x.setStates(6);
        x.setArrow(4, 1, 5);
        x.setArrow(5, 2, 0);
        due("brokenDiamond", x.brokenDiamond(), 412);

        promise = 38;
        x.setAccepting(5, true);
        due("closed, not reached", x.closed(), 1);
        x.setArrow(0, 0, 4);
        due("closed, reached", x.closed(), 0);
        x.setAccepting(0, true);
        due("closed, reached", x.closed(), 0);
        for (int q = 0; q < 6; q++) {
            x.setAccepting(q, true);
        }
        due("closed, all accepting", x.closed(), 1);
        due("brokenDiamond", x.brokenDiamond(), 412);

        // ab and ba lead to different states, which only a word of three letters c tells apart.
        fresh(38, 3, "ab");
        x.setStates(6);
        x.setArrow(0, 0, 1);
        x.setArrow(1, 1, 2);
        x.setArrow(0, 1, 5);
        x.setArrow(5, 0, 5);
        x.setArrow(2, 2, 3);
        x.setArrow(3, 2, 4);
        x.setArrow(4, 2, 0);
        x.setArrow(0, 2, 0);
        x.setAccepting(0, true);
        due("closed", x.closed(), 0);
    }

    private static void slots() {
        fresh(39, 5, "ae");
        put(3, "ea");
        x.setStates(2);
        x.setArrow(0, 4, 1);
        x.setArrow(0, 0, 1);
        x.setArrow(1, 4, 0);
        x.setAccepting(1, true);
        due("save(-1)", x.save(-1), BAD_INDEX);
        due("save(2)", x.save(2), BAD_INDEX);
        due("save(0)", x.save(0), 5);
        promise = 40;
        due("restore(1)", x.restore(1), NOT_POSSIBLE);
        due("restore(2)", x.restore(2), BAD_INDEX);
        due("restore(-1)", x.restore(-1), BAD_INDEX);
        long sum = x.checksum();
        x.setLetters(2);
        write("ab");
        due("save(1)", x.save(1), 2);
        for (int i = 0; i < 2; i++) {
            due("restore(0)", x.restore(0), 5);
            due("checksum", x.checksum(), sum);
            dueWord(3, "ea");
            due("independent(4)", x.independent(4), 1);
            due("setArrow(0, 4, 0)", x.setArrow(0, 4, 0), 1);
            due("setArrow(0, 0, 0)", x.setArrow(0, 0, 0), 1);
            due("setArrow(1, 4, 1)", x.setArrow(1, 4, 1), 0);
            due("setAccepting(1, false)", x.setAccepting(1, false), 1);
            due("setStates(1)", x.setStates(1), 2);
            put(3, "aaa");
        }
        due("restore(1)", x.restore(1), 2);
        due("clearText", x.clearText(), 2);
        put(0, "b");
        due("save(0)", x.save(0), 2);
        x.clear(0);
        due("restore(0)", x.restore(0), 2);
        dueWord(0, "b");
    }

    private static long mix(long start, long... values) {
        long h = start;
        for (long value : values) {
            h = 31 * h + value;
        }
        return h;
    }

    private static void checksums() {
        fresh(41, 2, "");
        long h = mix(67, 2, 0, 0);
        for (int w = 0; w < 6; w++) {
            h = mix(h, 0, 1, 1, 0);
        }
        due("checksum", x.checksum(), mix(h, NONE, 1));

        // Word 5 is ba, alike to ab; only ab leads to the accepting state.
        x.setIndependent(0, 1, true);
        put(5, "ba");
        x.setStates(3);
        x.setArrow(0, 0, 1);
        x.setArrow(1, 1, 2);
        x.setAccepting(2, true);
        h = mix(67, 2, 2, 1);
        for (int w = 0; w < 5; w++) {
            h = mix(h, 0, 1, 1, 0);
        }
        h = mix(h, 2, 0, 1, 3, 2, 0, 1);
        due("checksum", x.checksum(), mix(h, 1, 0));
        write("ab");
        x.save(0);
        due("checksum", x.checksum(), mix(h, 1, 0));
    }

    private static void errorsChangeNothing() {
        fresh(41, 4, "ac bd");
        put(0, "abcdabcdabcdabcd");
        put(1, "ab");
        put(2, "ba");
        x.setStates(2);
        x.setArrow(0, 1, 1);
        x.setAccepting(1, true);
        write("ab(");
        long sum = x.checksum();
        x.setLetters(1);
        x.setIndependent(0, 0, true);
        x.add(0, 0);
        x.add(1, 4);
        x.clear(6);
        x.product(0, 1, 2);
        x.product(1, 2, 6);
        x.quotient(2, 1, 0);
        x.commonMultiple(1, 2, 0);
        x.root(3, 1);
        x.reverse(0, -1);
        x.commonPrefix(0, 9, 0);
        x.append(128);
        x.matches(0);
        x.setStates(9);
        x.setArrow(0, 0, 2);
        x.setAccepting(2, true);
        x.save(2);
        x.restore(0);
        due("checksum after errors", x.checksum(), sum);
        due("clearText after errors", x.clearText(), 3);
    }
}
