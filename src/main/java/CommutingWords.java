import java.util.Arrays;

/**
 * A bench for words some of whose letters commute. Words that differ only by exchanges of
 * neighbouring independent letters are alike; the class multiplies, divides, compares and counts
 * them up to likeness, matches them with rational expressions and checks recognisers.
 */
public final class CommutingWords {
    public static final int BAD_INDEX = -1;
    public static final int BAD_VALUE = -2;
    public static final int NOT_POSSIBLE = -3;
    public static final int FULL = -4;
    public static final int NONE = -5;

    private static final int LEAST_LETTERS = 2;
    private static final int MOST_LETTERS = 6;
    private static final int LETTERS_AT_FIRST = 4;
    private static final int LETTER_SETS = 64;
    private static final int WORDS = 6;
    private static final int WORD_ROOM = 16;
    // Two whole words one after the other: commute looks at such products.
    private static final int PAIR_ROOM = 32;
    private static final int MOST_STATES = 6;
    private static final int TEXT_ROOM = 80;
    private static final int LAST_BYTE = 127;
    // Each atom and each star has a byte of its own, each sum too, and products are fewer than atoms.
    private static final int NODE_ROOM = 2 * TEXT_ROOM;
    private static final int SLOTS = 2;
    // The greatest product of six numbers whose sum is 16 + 6, which is 4 * 4 * 4 * 4 * 3 * 3.
    private static final int PREFIX_ROOM = 2304;
    private static final int NOTHING = -1;

    private final Setting now = new Setting();
    private final Setting[] slots = new Setting[SLOTS];
    private final boolean[] saved = new boolean[SLOTS];
    private final Text text = new Text();
    private final Word draft = new Word();
    private final Places places = new Places();
    private final Places otherPlaces = new Places();
    private final Prefixes prefixes = new Prefixes();
    private final Counter counter = new Counter();
    private final Tree tree = new Tree();
    private final Matcher matcher = new Matcher();

    public CommutingWords() {
        for (int slot = 0; slot < SLOTS; slot++) {
            slots[slot] = new Setting();
        }
    }

    // ---- letters

    public int setLetters(int letters) {
        if (letters < LEAST_LETTERS || letters > MOST_LETTERS) {
            return BAD_VALUE;
        }
        int previous = now.alphabet.count;
        now.begin(letters);
        return previous;
    }

    public int setIndependent(int letter, int other, boolean independent) {
        if (!now.alphabet.has(letter) || !now.alphabet.has(other) || letter == other) {
            return BAD_INDEX;
        }
        boolean previous = now.alphabet.areFree(letter, other);
        now.alphabet.join(letter, other, independent);
        return toNumber(previous);
    }

    public int independent(int letter) {
        if (!now.alphabet.has(letter)) {
            return BAD_INDEX;
        }
        return now.alphabet.freeOf(letter);
    }

    public long different(int length) {
        if (length < 0 || length > WORD_ROOM) {
            return BAD_VALUE;
        }
        return now.alphabet.countDifferent(length);
    }

    // ---- words

    public int add(int word, int letter) {
        if (!isWord(word) || !now.alphabet.has(letter)) {
            return BAD_INDEX;
        }
        Word changed = now.words[word];
        if (changed.size >= WORD_ROOM) {
            return FULL;
        }
        changed.push(letter);
        return changed.size;
    }

    public int clear(int word) {
        if (!isWord(word)) {
            return BAD_INDEX;
        }
        int previous = now.words[word].size;
        now.words[word].empty();
        return previous;
    }

    public int length(int word) {
        if (!isWord(word)) {
            return BAD_INDEX;
        }
        return now.words[word].size;
    }

    public int letter(int word, int index) {
        if (!isWord(word)) {
            return BAD_INDEX;
        }
        return letterOrNone(now.words[word], index);
    }

    public int normal(int word, int index) {
        if (!isWord(word)) {
            return BAD_INDEX;
        }
        lay(word);
        places.writeRest(draft);
        return letterOrNone(draft, index);
    }

    public int layers(int word) {
        if (!isWord(word)) {
            return BAD_INDEX;
        }
        lay(word);
        return places.countLayers();
    }

    public int layer(int word, int layer) {
        if (!isWord(word)) {
            return BAD_INDEX;
        }
        lay(word);
        if (layer < 0 || layer >= places.countLayers()) {
            return NONE;
        }
        return places.lettersOfLayer(layer);
    }

    public int projected(int word, int letter, int other, int index) {
        if (!isWord(word) || !now.alphabet.has(letter) || !now.alphabet.has(other)) {
            return BAD_INDEX;
        }
        Word whole = now.words[word];
        draft.empty();
        for (int i = 0; i < whole.size; i++) {
            int found = whole.at(i);
            if (found == letter || found == other) {
                draft.push(found);
            }
        }
        return letterOrNone(draft, index);
    }

    public long alikeWords(int word) {
        if (!isWord(word)) {
            return BAD_INDEX;
        }
        countAlike(now.words[word]);
        return counter.countAll();
    }

    public int alike(int word, int other) {
        if (!isWord(word) || !isWord(other)) {
            return BAD_INDEX;
        }
        lay(other);
        return toNumber(places.takeAll(now.words[word]) && places.allTaken());
    }

    public int commute(int word, int other) {
        if (!isWord(word) || !isWord(other)) {
            return BAD_INDEX;
        }
        draftPair(word, other);
        places.lay(now.alphabet, draft);
        return toNumber(places.takeAll(now.words[other]) && places.takeAll(now.words[word]));
    }

    public int connected(int word) {
        if (!isWord(word)) {
            return BAD_INDEX;
        }
        return toNumber(now.alphabet.isConnected(now.words[word].letterSet()));
    }

    public int isPrefix(int word, int other) {
        if (!isWord(word) || !isWord(other)) {
            return BAD_INDEX;
        }
        lay(other);
        return toNumber(places.takeAll(now.words[word]));
    }

    public int isFactor(int word, int other) {
        if (!isWord(word) || !isWord(other)) {
            return BAD_INDEX;
        }
        prefixes.begin(now.alphabet, now.words[other]);
        return toNumber(prefixes.someIsFollowedBy(now.words[word]));
    }

    public int exponent(int word) {
        if (!isWord(word)) {
            return BAD_INDEX;
        }
        if (now.words[word].size == 0) {
            return NOT_POSSIBLE;
        }
        return draftRoot(now.words[word]);
    }

    // ---- results that become words

    public int product(int first, int second, int result) {
        if (!isWord(first) || !isWord(second) || !isWord(result)) {
            return BAD_INDEX;
        }
        draftPair(first, second);
        if (draft.size > WORD_ROOM) {
            return FULL;
        }
        return settleDraft(result);
    }

    public int quotient(int first, int second, int result) {
        if (!isWord(first) || !isWord(second) || !isWord(result)) {
            return BAD_INDEX;
        }
        lay(second);
        if (!places.takeAll(now.words[first])) {
            return NOT_POSSIBLE;
        }
        places.writeRest(now.words[result]);
        return now.words[result].size;
    }

    public int commonPrefix(int first, int second, int result) {
        if (!isWord(first) || !isWord(second) || !isWord(result)) {
            return BAD_INDEX;
        }
        draftCommonPrefix(first, second);
        return settleDraft(result);
    }

    public int commonMultiple(int first, int second, int result) {
        if (!isWord(first) || !isWord(second) || !isWord(result)) {
            return BAD_INDEX;
        }
        draftCommonPrefix(first, second);
        // What remains of both has no common prefix, so it has a common multiple only if it commutes.
        if (!now.alphabet.areAllFree(places.lettersOfRest(), otherPlaces.lettersOfRest())) {
            return NOT_POSSIBLE;
        }
        if (draft.size + places.countRest() + otherPlaces.countRest() > WORD_ROOM) {
            return FULL;
        }
        places.pushRest(draft);
        otherPlaces.pushRest(draft);
        return settleDraft(result);
    }

    public int root(int word, int result) {
        if (!isWord(word) || !isWord(result)) {
            return BAD_INDEX;
        }
        if (now.words[word].size == 0) {
            return NOT_POSSIBLE;
        }
        draftRoot(now.words[word]);
        return settleDraft(result);
    }

    public int reverse(int word, int result) {
        if (!isWord(word) || !isWord(result)) {
            return BAD_INDEX;
        }
        Word source = now.words[word];
        draft.empty();
        for (int i = source.size - 1; i >= 0; i--) {
            draft.push(source.at(i));
        }
        return settleDraft(result);
    }

    // ---- expressions

    public int append(int letter) {
        if (letter < 0 || letter > LAST_BYTE) {
            return BAD_VALUE;
        }
        if (text.size >= TEXT_ROOM) {
            return FULL;
        }
        text.push(letter);
        return text.size;
    }

    public int clearText() {
        int previous = text.size;
        text.empty();
        return previous;
    }

    public int faultPosition() {
        int fault = text.faultAt(now.alphabet.count);
        return fault == NOTHING ? NONE : fault;
    }

    public int matches(int word) {
        if (!isWord(word)) {
            return BAD_INDEX;
        }
        if (!tree.plant(text, now.alphabet.count)) {
            return NOT_POSSIBLE;
        }
        prefixes.begin(now.alphabet, now.words[word]);
        return toNumber(matcher.fits(tree, prefixes));
    }

    public int starConnected() {
        if (!tree.plant(text, now.alphabet.count)) {
            return NOT_POSSIBLE;
        }
        return toNumber(tree.hasConnectedStars(now.alphabet));
    }

    public int shortest() {
        if (!tree.plant(text, now.alphabet.count)) {
            return NOT_POSSIBLE;
        }
        return tree.leastLength();
    }

    // ---- recognisers

    public int setStates(int states) {
        if (states < 1 || states > MOST_STATES) {
            return BAD_VALUE;
        }
        int previous = now.recogniser.states;
        now.recogniser.begin(states);
        return previous;
    }

    public int setArrow(int state, int letter, int to) {
        Recogniser recogniser = now.recogniser;
        if (!recogniser.has(state) || !now.alphabet.has(letter) || !recogniser.has(to)) {
            return BAD_INDEX;
        }
        int previous = recogniser.step(state, letter);
        recogniser.lead(state, letter, to);
        return previous;
    }

    public int setAccepting(int state, boolean accepting) {
        if (!now.recogniser.has(state)) {
            return BAD_INDEX;
        }
        boolean previous = now.recogniser.accepts(state);
        now.recogniser.mark(state, accepting);
        return toNumber(previous);
    }

    public long acceptedAlike(int word) {
        if (!isWord(word)) {
            return BAD_INDEX;
        }
        countAlike(now.words[word]);
        return counter.countAccepted(now.recogniser);
    }

    public int brokenDiamond() {
        return now.recogniser.findBroken(now.alphabet);
    }

    public int closed() {
        return toNumber(now.recogniser.isClosed(now.alphabet));
    }

    // ---- slots, checksum

    public int save(int slot) {
        if (!isSlot(slot)) {
            return BAD_INDEX;
        }
        slots[slot].become(now);
        saved[slot] = true;
        return now.alphabet.count;
    }

    public int restore(int slot) {
        if (!isSlot(slot)) {
            return BAD_INDEX;
        }
        if (!saved[slot]) {
            return NOT_POSSIBLE;
        }
        now.become(slots[slot]);
        return now.alphabet.count;
    }

    public long checksum() {
        Alphabet alphabet = now.alphabet;
        long sum = mix(67, alphabet.count);
        for (int letter = 0; letter < alphabet.count; letter++) {
            sum = mix(sum, alphabet.freeOf(letter));
        }
        for (int word = 0; word < WORDS; word++) {
            sum = mixWord(sum, now.words[word]);
        }
        sum = mix(sum, now.recogniser.findBroken(alphabet));
        return mix(sum, toNumber(now.recogniser.isClosed(alphabet)));
    }

    // ---- helpers

    private static boolean isWord(int word) {
        return word >= 0 && word < WORDS;
    }

    private static boolean isSlot(int slot) {
        return slot >= 0 && slot < SLOTS;
    }

    private static int toNumber(boolean yes) {
        return yes ? 1 : 0;
    }

    private static int letterOrNone(Word word, int index) {
        int found = word.at(index);
        return found == NOTHING ? NONE : found;
    }

    private static long mix(long sum, long value) {
        return 31 * sum + value;
    }

    private long mixWord(long start, Word word) {
        long sum = mix(start, word.size);
        places.lay(now.alphabet, word);
        places.writeRest(draft);
        for (int i = 0; i < draft.size; i++) {
            sum = mix(sum, draft.at(i));
        }
        int layerCount = places.countLayers();
        for (int i = 0; i < layerCount; i++) {
            sum = mix(sum, places.lettersOfLayer(i));
        }
        countAlike(word);
        sum = mix(sum, counter.countAll());
        sum = mix(sum, toNumber(now.alphabet.isConnected(word.letterSet())));
        return mix(sum, counter.countAccepted(now.recogniser));
    }

    private void lay(int word) {
        places.lay(now.alphabet, now.words[word]);
    }

    private void countAlike(Word word) {
        prefixes.begin(now.alphabet, word);
        counter.spread(prefixes, now.recogniser);
    }

    /** Makes a word the normal form of the draft; results may overwrite what they are made from. */
    private int settleDraft(int result) {
        places.lay(now.alphabet, draft);
        places.writeRest(now.words[result]);
        return now.words[result].size;
    }

    private void draftPair(int first, int second) {
        draft.empty();
        draft.pushAll(now.words[first]);
        draft.pushAll(now.words[second]);
    }

    /** Leaves in both rows of places what follows the greatest common prefix. */
    private void draftCommonPrefix(int first, int second) {
        places.lay(now.alphabet, now.words[first]);
        otherPlaces.lay(now.alphabet, now.words[second]);
        draft.empty();
        for (int i = 0; i < WORD_ROOM; i++) {
            int common = firstCommonLetter();
            if (common == NOTHING) {
                return;
            }
            places.take(common);
            otherPlaces.take(common);
            draft.push(common);
        }
    }

    private int firstCommonLetter() {
        for (int letter = 0; letter < now.alphabet.count; letter++) {
            if (places.nextPlace(letter) != NOTHING && otherPlaces.nextPlace(letter) != NOTHING) {
                return letter;
            }
        }
        return NOTHING;
    }

    /** Makes the draft the root of a word and returns the exponent. */
    private int draftRoot(Word word) {
        for (int power = word.size; power > 1; power--) {
            if (draftPart(word, power) && isDraftPower(word, power)) {
                return power;
            }
        }
        draft.become(word);
        return 1;
    }

    /**
     * Makes the draft the only word that can be the root for this power: the first occurrences of
     * each letter, an equal share of them.
     */
    private boolean draftPart(Word word, int power) {
        draft.empty();
        if (power < 1) {
            return false;
        }
        for (int i = 0; i < word.size; i++) {
            int found = word.at(i);
            int all = word.countBefore(found, word.size);
            if (all % power != 0) {
                return false;
            }
            if (word.countBefore(found, i) < all / power) {
                draft.push(found);
            }
        }
        return true;
    }

    private boolean isDraftPower(Word word, int power) {
        places.lay(now.alphabet, word);
        for (int i = 0; i < power; i++) {
            if (!places.takeAll(draft)) {
                return false;
            }
        }
        return places.allTaken();
    }

    /** The letters and which of them are independent ("free" of one another). */
    private static final class Alphabet {
        private int count;
        private final int[] free = new int[MOST_LETTERS];

        void begin(int letters) {
            count = letters;
            Arrays.fill(free, 0);
        }

        void become(Alphabet other) {
            count = other.count;
            for (int letter = 0; letter < MOST_LETTERS; letter++) {
                free[letter] = other.free[letter];
            }
        }

        boolean has(int letter) {
            return letter >= 0 && letter < count && letter < MOST_LETTERS;
        }

        int freeOf(int letter) {
            return letter >= 0 && letter < MOST_LETTERS ? free[letter] : 0;
        }

        boolean areFree(int letter, int other) {
            return has(other) && (freeOf(letter) >> other & 1) != 0;
        }

        void join(int letter, int other, boolean independent) {
            if (!has(letter) || !has(other) || letter == other) {
                return;
            }
            if (independent) {
                free[letter] |= 1 << other;
                free[other] |= 1 << letter;
            } else {
                free[letter] &= ~(1 << other);
                free[other] &= ~(1 << letter);
            }
        }

        boolean areAllFree(int letters, int others) {
            for (int letter = 0; letter < count; letter++) {
                if ((letters >> letter & 1) != 0 && (others & ~freeOf(letter)) != 0) {
                    return false;
                }
            }
            return true;
        }

        boolean isConnected(int letters) {
            int reached = letters & -letters;
            for (int round = 0; round < count; round++) {
                int grown = reached;
                for (int letter = 0; letter < count; letter++) {
                    if ((reached >> letter & 1) != 0) {
                        grown |= letters & ~freeOf(letter);
                    }
                }
                reached = grown;
            }
            return reached == letters;
        }

        /** The connected sets of letters, as bits of one number. */
        long connectedSets() {
            long sets = 0;
            for (int letters = 0; letters < 1 << count && letters < LETTER_SETS; letters++) {
                if (isConnected(letters)) {
                    sets |= 1L << letters;
                }
            }
            return sets;
        }

        /**
         * A word can begin with each letter of its first layer. Inclusion and exclusion over the sets
         * of independent letters with which words begin counts each word once.
         */
        long countDifferent(int length) {
            if (length < 0 || length > WORD_ROOM) {
                return 0;
            }
            long[] cliques = countCliques();
            long[] words = new long[WORD_ROOM + 1];
            words[0] = 1;
            for (int n = 1; n <= length; n++) {
                long sum = 0;
                for (int size = 1; size <= n && size <= MOST_LETTERS; size++) {
                    long part = cliques[size] * words[n - size];
                    sum += (size & 1) != 0 ? part : -part;
                }
                words[n] = sum;
            }
            return words[length];
        }

        /** How many sets of pairwise independent letters there are of each size. */
        private long[] countCliques() {
            long[] cliques = new long[MOST_LETTERS + 1];
            for (int letters = 0; letters < 1 << count && letters < LETTER_SETS; letters++) {
                if (isClique(letters)) {
                    cliques[Integer.bitCount(letters)]++;
                }
            }
            return cliques;
        }

        private boolean isClique(int letters) {
            for (int letter = 0; letter < count; letter++) {
                int others = letters & ~(1 << letter);
                if (others != letters && (others & ~freeOf(letter)) != 0) {
                    return false;
                }
            }
            return true;
        }
    }

    /** A row of letters; it has room for two words, the limit of one word is the callers' matter. */
    private static final class Word {
        private final int[] letters = new int[PAIR_ROOM];
        private int size;

        void empty() {
            size = 0;
        }

        int at(int index) {
            return index >= 0 && index < size && index < PAIR_ROOM ? letters[index] : NOTHING;
        }

        void push(int letter) {
            if (size >= 0 && size < PAIR_ROOM) {
                letters[size] = letter;
                size++;
            }
        }

        void pushAll(Word other) {
            int added = other.size;
            for (int i = 0; i < added; i++) {
                push(other.at(i));
            }
        }

        void become(Word other) {
            size = other.size;
            for (int i = 0; i < PAIR_ROOM; i++) {
                letters[i] = other.letters[i];
            }
        }

        int countBefore(int letter, int end) {
            int found = 0;
            for (int i = 0; i < end && i < size; i++) {
                if (at(i) == letter) {
                    found++;
                }
            }
            return found;
        }

        int letterSet() {
            int set = 0;
            for (int i = 0; i < size; i++) {
                set |= 1 << at(i);
            }
            return set;
        }
    }

    /** A recogniser: states with an arrow for each letter, some of them accepting. */
    private static final class Recogniser {
        private int states;
        private final int[] arrows = new int[MOST_STATES * MOST_LETTERS];
        private int accepting;
        private final int[] apart = new int[MOST_STATES];

        void begin(int newStates) {
            states = newStates;
            accepting = 0;
            for (int state = 0; state < MOST_STATES; state++) {
                for (int letter = 0; letter < MOST_LETTERS; letter++) {
                    arrows[state * MOST_LETTERS + letter] = state;
                }
            }
        }

        void become(Recogniser other) {
            states = other.states;
            accepting = other.accepting;
            for (int i = 0; i < MOST_STATES * MOST_LETTERS; i++) {
                arrows[i] = other.arrows[i];
            }
        }

        boolean has(int state) {
            return state >= 0 && state < states && state < MOST_STATES;
        }

        int step(int state, int letter) {
            boolean known = has(state) && letter >= 0 && letter < MOST_LETTERS;
            return known ? arrows[state * MOST_LETTERS + letter] : 0;
        }

        void lead(int state, int letter, int to) {
            if (has(state) && letter >= 0 && letter < MOST_LETTERS && has(to)) {
                arrows[state * MOST_LETTERS + letter] = to;
            }
        }

        boolean accepts(int state) {
            return has(state) && (accepting >> state & 1) != 0;
        }

        void mark(int state, boolean accepted) {
            if (!has(state)) {
                return;
            }
            accepting = accepted ? accepting | 1 << state : accepting & ~(1 << state);
        }

        int findBroken(Alphabet alphabet) {
            for (int state = 0; state < states; state++) {
                for (int first = 0; first < alphabet.count; first++) {
                    for (int second = first + 1; second < alphabet.count; second++) {
                        if (alphabet.areFree(first, second)
                                && stepTwice(state, first, second) != stepTwice(state, second, first)) {
                            return 100 * state + 10 * first + second;
                        }
                    }
                }
            }
            return NONE;
        }

        /** Only states to which a word leads count, and ends that no word tells apart are as good as one. */
        boolean isClosed(Alphabet alphabet) {
            int reached = findReached(alphabet.count);
            tellApart(alphabet.count);
            for (int state = 0; state < states; state++) {
                if ((reached >> state & 1) != 0 && !endsAlike(state, alphabet)) {
                    return false;
                }
            }
            return true;
        }

        private boolean endsAlike(int state, Alphabet alphabet) {
            for (int first = 0; first < alphabet.count; first++) {
                for (int second = first + 1; second < alphabet.count; second++) {
                    if (alphabet.areFree(first, second)
                            && areApart(stepTwice(state, first, second), stepTwice(state, second, first))) {
                        return false;
                    }
                }
            }
            return true;
        }

        private int stepTwice(int state, int first, int second) {
            return step(step(state, first), second);
        }

        private int findReached(int letters) {
            int reached = 1;
            for (int round = 0; round < states; round++) {
                for (int state = 0; state < states; state++) {
                    for (int letter = 0; letter < letters && (reached >> state & 1) != 0; letter++) {
                        reached |= 1 << step(state, letter);
                    }
                }
            }
            return reached;
        }

        /** Two states are apart if some word leads only one of them to an accepting state. */
        private void tellApart(int letters) {
            for (int state = 0; state < MOST_STATES; state++) {
                apart[state] = accepts(state) ? ~accepting : accepting;
            }
            // A word of fewer letters than there are states tells apart what any word does.
            for (int round = 0; round < states; round++) {
                for (int state = 0; state < states && state < MOST_STATES; state++) {
                    for (int other = 0; other < states; other++) {
                        if (stepApart(state, other, letters)) {
                            apart[state] |= 1 << other;
                        }
                    }
                }
            }
        }

        private boolean stepApart(int state, int other, int letters) {
            for (int letter = 0; letter < letters; letter++) {
                if (areApart(step(state, letter), step(other, letter))) {
                    return true;
                }
            }
            return false;
        }

        private boolean areApart(int state, int other) {
            return has(state) && has(other) && (apart[state] >> other & 1) != 0;
        }
    }

    /** All that a slot keeps. */
    private static final class Setting {
        private final Alphabet alphabet = new Alphabet();
        private final Word[] words = new Word[WORDS];
        private final Recogniser recogniser = new Recogniser();

        Setting() {
            for (int word = 0; word < WORDS; word++) {
                words[word] = new Word();
            }
            begin(LETTERS_AT_FIRST);
        }

        void begin(int letters) {
            alphabet.begin(letters);
            for (int word = 0; word < WORDS; word++) {
                words[word].empty();
            }
            recogniser.begin(1);
        }

        void become(Setting other) {
            alphabet.become(other.alphabet);
            for (int word = 0; word < WORDS; word++) {
                words[word].become(other.words[word]);
            }
            recogniser.become(other.recogniser);
        }
    }

    /**
     * The places of a word, each with the places that must go before it, and the set of those that
     * have been taken away from the front. Sets of places are bits of one int.
     */
    private static final class Places {
        private final int[] letterAt = new int[PAIR_ROOM];
        private final int[] layerAt = new int[PAIR_ROOM];
        private final int[] before = new int[PAIR_ROOM];
        private final int[] placesOf = new int[MOST_LETTERS];
        private int letters;
        private int size;
        private int taken;

        void lay(Alphabet alphabet, Word word) {
            letters = alphabet.count;
            size = 0;
            taken = 0;
            Arrays.fill(placesOf, 0);
            for (int i = 0; i < word.size && i < PAIR_ROOM; i++) {
                layLetter(alphabet, word.at(i));
            }
        }

        private void layLetter(Alphabet alphabet, int letter) {
            if (!alphabet.has(letter) || size < 0 || size >= PAIR_ROOM) {
                return;
            }
            int free = alphabet.freeOf(letter);
            int needed = 0;
            int layer = 0;
            for (int place = 0; place < size && place < PAIR_ROOM; place++) {
                if ((free >> letterAt[place] & 1) == 0) {
                    needed |= 1 << place;
                    layer = Math.max(layer, layerAt[place] + 1);
                }
            }
            letterAt[size] = letter;
            layerAt[size] = layer;
            before[size] = needed;
            placesOf[letter] |= 1 << size;
            size++;
        }

        int countLayers() {
            int found = 0;
            for (int place = 0; place < size && place < PAIR_ROOM; place++) {
                found = Math.max(found, layerAt[place] + 1);
            }
            return found;
        }

        int lettersOfLayer(int layer) {
            int set = 0;
            for (int place = 0; place < size && place < PAIR_ROOM; place++) {
                if (layerAt[place] == layer) {
                    set |= 1 << letterAt[place];
                }
            }
            return set;
        }

        int countOf(int letter) {
            return letter >= 0 && letter < MOST_LETTERS ? Integer.bitCount(placesOf[letter]) : 0;
        }

        /** The place from which a letter can be taken now, or NOTHING. */
        int nextPlace(int letter) {
            if (letter < 0 || letter >= MOST_LETTERS) {
                return NOTHING;
            }
            int open = placesOf[letter] & ~taken;
            if (open == 0) {
                return NOTHING;
            }
            int place = Integer.numberOfTrailingZeros(open);
            return (before[place] & ~taken) == 0 ? place : NOTHING;
        }

        boolean take(int letter) {
            int place = nextPlace(letter);
            if (place == NOTHING) {
                return false;
            }
            taken |= 1 << place;
            return true;
        }

        boolean takeAll(Word word) {
            for (int i = 0; i < word.size; i++) {
                if (!take(word.at(i))) {
                    return false;
                }
            }
            return true;
        }

        boolean allTaken() {
            return countRest() == 0;
        }

        int countRest() {
            return size - Integer.bitCount(taken);
        }

        int lettersOfRest() {
            int set = 0;
            for (int letter = 0; letter < letters && letter < MOST_LETTERS; letter++) {
                if ((placesOf[letter] & ~taken) != 0) {
                    set |= 1 << letter;
                }
            }
            return set;
        }

        /** Takes the rest away, the lowest letter first each time, so that its normal form is pushed. */
        void pushRest(Word result) {
            int rest = countRest();
            for (int i = 0; i < rest; i++) {
                int lowest = 0;
                while (lowest < letters && !take(lowest)) {
                    lowest++;
                }
                if (lowest < letters) {
                    result.push(lowest);
                }
            }
        }

        void writeRest(Word result) {
            result.empty();
            pushRest(result);
        }
    }

    /**
     * The prefixes of a word up to likeness, numbered by how often they have each letter: the letter
     * i counts weight[i]. A longer prefix has a higher number, and the whole word the highest one.
     */
    private static final class Prefixes {
        private final Places places = new Places();
        private final int[] takenAt = new int[PREFIX_ROOM];
        private final int[] weight = new int[MOST_LETTERS];
        private int letters;
        private int size;

        void begin(Alphabet alphabet, Word word) {
            places.lay(alphabet, word);
            letters = alphabet.count;
            size = 1;
            for (int letter = 0; letter < MOST_LETTERS; letter++) {
                weight[letter] = size;
                size = Math.min(PREFIX_ROOM, size * (places.countOf(letter) + 1));
            }
            for (int prefix = 0; prefix < size && prefix < PREFIX_ROOM; prefix++) {
                takenAt[prefix] = NOTHING;
            }
            takenAt[0] = 0;
        }

        /** The number of a prefix with one letter more, or NOTHING if that is no prefix. */
        int grow(int prefix, int letter) {
            if (!open(prefix) || letter < 0 || letter >= MOST_LETTERS) {
                return NOTHING;
            }
            int grown = prefix + weight[letter];
            int place = places.nextPlace(letter);
            if (place == NOTHING || grown < 0 || grown >= size || grown >= PREFIX_ROOM) {
                return NOTHING;
            }
            takenAt[grown] = places.taken | 1 << place;
            return grown;
        }

        boolean someIsFollowedBy(Word word) {
            for (int prefix = 0; prefix < size; prefix++) {
                if (open(prefix) && places.takeAll(word)) {
                    return true;
                }
                for (int letter = 0; letter < letters; letter++) {
                    grow(prefix, letter);
                }
            }
            return false;
        }

        private boolean open(int prefix) {
            if (prefix < 0 || prefix >= size || prefix >= PREFIX_ROOM || takenAt[prefix] == NOTHING) {
                return false;
            }
            places.taken = takenAt[prefix];
            return true;
        }
    }

    /** Counts, for each prefix and each state, the words alike to the prefix that lead to the state. */
    private static final class Counter {
        private final long[] ways = new long[PREFIX_ROOM * MOST_STATES];
        private int last;

        void spread(Prefixes prefixes, Recogniser recogniser) {
            for (int i = 0; i < prefixes.size * MOST_STATES && i < ways.length; i++) {
                ways[i] = 0;
            }
            ways[0] = 1;
            last = prefixes.size - 1;
            for (int prefix = 0; prefix < prefixes.size; prefix++) {
                for (int letter = 0; letter < prefixes.letters; letter++) {
                    int grown = prefixes.grow(prefix, letter);
                    if (grown != NOTHING) {
                        pass(prefix, grown, letter, recogniser);
                    }
                }
            }
        }

        private void pass(int from, int to, int letter, Recogniser recogniser) {
            for (int state = 0; state < recogniser.states; state++) {
                long some = countAt(from, state);
                int target = to * MOST_STATES + recogniser.step(state, letter);
                if (some != 0 && target >= 0 && target < ways.length) {
                    ways[target] += some;
                }
            }
        }

        private long countAt(int prefix, int state) {
            int index = prefix * MOST_STATES + state;
            return index >= 0 && index < ways.length ? ways[index] : 0;
        }

        long countAll() {
            long sum = 0;
            for (int state = 0; state < MOST_STATES; state++) {
                sum += countAt(last, state);
            }
            return sum;
        }

        long countAccepted(Recogniser recogniser) {
            long sum = 0;
            for (int state = 0; state < MOST_STATES; state++) {
                if (recogniser.accepts(state)) {
                    sum += countAt(last, state);
                }
            }
            return sum;
        }
    }

    /** The text of an expression. */
    private static final class Text {
        private final int[] bytes = new int[TEXT_ROOM];
        private int size;

        void empty() {
            size = 0;
        }

        void push(int letter) {
            if (size >= 0 && size < TEXT_ROOM) {
                bytes[size] = letter;
                size++;
            }
        }

        int at(int index) {
            return index >= 0 && index < size && index < TEXT_ROOM ? bytes[index] : NOTHING;
        }

        /** The fault position, or NOTHING. */
        int faultAt(int letters) {
            boolean needsAtom = true;
            int depth = 0;
            for (int i = 0; i < size; i++) {
                int sign = at(i);
                if (sign == '1' || sign >= 'a' && sign < 'a' + letters) {
                    needsAtom = false;
                } else if (sign == '(') {
                    depth++;
                    needsAtom = true;
                } else if (needsAtom) {
                    return i;
                } else if (sign == '+') {
                    needsAtom = true;
                } else if (sign == ')' && depth > 0) {
                    depth--;
                } else if (sign != '*') {
                    return i;
                }
            }
            return needsAtom || depth > 0 ? size : NOTHING;
        }
    }

    /** The nodes of an expression without a fault, the parts of each one before it. */
    private static final class Tree {
        private static final int EMPTY = 0;
        private static final int LETTER = 1;
        private static final int SUM = 2;
        private static final int PRODUCT = 3;
        private static final int STAR = 4;
        // For each letter the sets of letters that have it, each set a bit.
        private static final long[] SETS_WITH = {
            0xAAAAAAAAAAAAAAAAL, 0xCCCCCCCCCCCCCCCCL, 0xF0F0F0F0F0F0F0F0L,
            0xFF00FF00FF00FF00L, 0xFFFF0000FFFF0000L, 0xFFFFFFFF00000000L
        };

        private final int[] kind = new int[NODE_ROOM];
        // For a letter, left is its number.
        private final int[] left = new int[NODE_ROOM];
        private final int[] right = new int[NODE_ROOM];
        private final int[] least = new int[NODE_ROOM];
        private final long[] letterSets = new long[NODE_ROOM];
        private int size;
        private int top;
        // What has been read so far of each open bracket's sum, product and item.
        private final int[] sums = new int[TEXT_ROOM + 1];
        private final int[] products = new int[TEXT_ROOM + 1];
        private final int[] items = new int[TEXT_ROOM + 1];
        private int depth;

        /** Returns false, and leaves the tree as it is, if the text has a fault. */
        boolean plant(Text text, int letters) {
            if (text.faultAt(letters) != NOTHING) {
                return false;
            }
            size = 0;
            depth = 0;
            openLevel();
            for (int i = 0; i < text.size; i++) {
                plantSign(text.at(i));
            }
            top = closeSum();
            for (int node = 0; node < size && node < NODE_ROOM; node++) {
                least[node] = findLeast(kind[node], left[node], right[node]);
            }
            return true;
        }

        int leastLength() {
            return leastOf(top);
        }

        boolean hasConnectedStars(Alphabet alphabet) {
            long connectedSets = alphabet.connectedSets();
            for (int node = 0; node < size && node < NODE_ROOM; node++) {
                long leftSets = setsOf(left[node]);
                if (kind[node] == STAR && (leftSets & ~connectedSets) != 0) {
                    return false;
                }
                letterSets[node] = joinSets(kind[node], left[node], leftSets, setsOf(right[node]));
            }
            return true;
        }

        private boolean isNode(int node) {
            return node >= 0 && node < size && node < NODE_ROOM;
        }

        private void plantSign(int sign) {
            switch (sign) {
                case '(':
                    closeProduct();
                    depth++;
                    openLevel();
                    break;
                case ')':
                    int inner = closeSum();
                    depth--;
                    putItem(inner);
                    break;
                case '*':
                    putItem(addNode(STAR, getItem(), NOTHING));
                    break;
                case '+':
                    closeSum();
                    break;
                case '1':
                    closeProduct();
                    putItem(addNode(EMPTY, NOTHING, NOTHING));
                    break;
                default:
                    closeProduct();
                    putItem(addNode(LETTER, sign - 'a', NOTHING));
            }
        }

        private boolean isLevel() {
            return depth >= 0 && depth <= TEXT_ROOM;
        }

        private void openLevel() {
            if (isLevel()) {
                sums[depth] = NOTHING;
                products[depth] = NOTHING;
                items[depth] = NOTHING;
            }
        }

        private int getItem() {
            return isLevel() ? items[depth] : NOTHING;
        }

        private void putItem(int node) {
            if (isLevel()) {
                items[depth] = node;
            }
        }

        private void closeProduct() {
            if (isLevel()) {
                products[depth] = join(PRODUCT, products[depth], items[depth]);
                items[depth] = NOTHING;
            }
        }

        private int closeSum() {
            if (!isLevel()) {
                return NOTHING;
            }
            closeProduct();
            sums[depth] = join(SUM, sums[depth], products[depth]);
            products[depth] = NOTHING;
            return sums[depth];
        }

        private int join(int newKind, int one, int other) {
            if (one == NOTHING) {
                return other;
            }
            return other == NOTHING ? one : addNode(newKind, one, other);
        }

        private int addNode(int newKind, int newLeft, int newRight) {
            if (size < 0 || size >= NODE_ROOM) {
                return NOTHING;
            }
            kind[size] = newKind;
            left[size] = newLeft;
            right[size] = newRight;
            size++;
            return size - 1;
        }

        /** The smallest length of a word of a node. */
        private int leastOf(int node) {
            return isNode(node) ? least[node] : 0;
        }

        private int findLeast(int ofKind, int one, int other) {
            switch (ofKind) {
                case LETTER:
                    return 1;
                case SUM:
                    return Math.min(leastOf(one), leastOf(other));
                case PRODUCT:
                    return leastOf(one) + leastOf(other);
                default:
                    return 0;
            }
        }

        private long setsOf(int node) {
            return isNode(node) ? letterSets[node] : 0;
        }

        /** The sets of letters that words of a node have; whether a word is connected hangs on its set alone. */
        private static long joinSets(int kind, int letter, long leftSets, long rightSets) {
            switch (kind) {
                case LETTER:
                    return 1L << (1 << letter);
                case SUM:
                    return leftSets | rightSets;
                case PRODUCT:
                    return unite(leftSets, rightSets);
                case STAR:
                    return repeat(leftSets);
                default:
                    return 1;
            }
        }

        private static long unite(long sets, long others) {
            long united = 0;
            for (int set = 0; set < LETTER_SETS; set++) {
                if ((others >>> set & 1) != 0) {
                    united |= addLetters(sets, set);
                }
            }
            return united;
        }

        private static long repeat(long sets) {
            long united = 1;
            for (int set = 0; set < LETTER_SETS; set++) {
                if ((sets >>> set & 1) != 0) {
                    united |= addLetters(united, set);
                }
            }
            return united;
        }

        private static long addLetters(long sets, int added) {
            long grown = sets;
            for (int letter = 0; letter < MOST_LETTERS; letter++) {
                if ((added >> letter & 1) != 0) {
                    long without = grown & ~SETS_WITH[letter];
                    grown = grown & SETS_WITH[letter] | without << (1 << letter);
                }
            }
            return grown;
        }
    }

    /**
     * Reads the prefixes of a word along an expression. A spot is a letter of the expression; for
     * each prefix there is the set of spots at which some word alike to it can end. A set of spots
     * has two longs, since there can be more than 64.
     */
    private static final class Matcher {
        private static final int HALVES = 2;
        private static final int HALF_SPOTS = 64;

        private final long[] firsts = new long[HALVES * NODE_ROOM];
        private final long[] lasts = new long[HALVES * NODE_ROOM];
        private final long[] follows = new long[HALVES * TEXT_ROOM];
        private final long[] spotsOf = new long[HALVES * MOST_LETTERS];
        private final long[] endsAt = new long[HALVES * PREFIX_ROOM];
        private final long[] next = new long[HALVES];
        private int spots;

        boolean fits(Tree tree, Prefixes prefixes) {
            if (!tree.isNode(tree.top)) {
                return false;
            }
            int last = prefixes.size - 1;
            if (last <= 0) {
                return tree.leastLength() == 0;
            }
            findSpots(tree);
            for (int i = 0; i < HALVES * prefixes.size && i < endsAt.length; i++) {
                endsAt[i] = 0;
            }
            for (int prefix = 0; prefix < last && prefix < PREFIX_ROOM; prefix++) {
                findNext(tree.top, prefix);
                for (int letter = 0; letter < prefixes.letters; letter++) {
                    readLetter(prefixes, prefix, letter);
                }
            }
            return shares(endsAt, last, lasts, tree.top);
        }

        private void readLetter(Prefixes prefixes, int prefix, int letter) {
            if (!shares(next, 0, spotsOf, letter)) {
                return;
            }
            int grown = prefixes.grow(prefix, letter);
            if (grown < 0 || grown >= PREFIX_ROOM || letter < 0 || letter >= MOST_LETTERS) {
                return;
            }
            for (int half = 0; half < HALVES; half++) {
                endsAt[HALVES * grown + half] |= next[half] & spotsOf[HALVES * letter + half];
            }
        }

        /** The spots that can be read after a prefix. */
        private void findNext(int top, int prefix) {
            Arrays.fill(next, 0);
            if (prefix == 0) {
                include(next, 0, firsts, top);
                return;
            }
            for (int spot = 0; spot < spots; spot++) {
                if (contains(endsAt, prefix, spot)) {
                    include(next, 0, follows, spot);
                }
            }
        }

        private void findSpots(Tree tree) {
            spots = 0;
            Arrays.fill(firsts, 0);
            Arrays.fill(lasts, 0);
            Arrays.fill(follows, 0);
            Arrays.fill(spotsOf, 0);
            for (int node = 0; node < tree.size && node < NODE_ROOM; node++) {
                findEnds(tree, node, tree.left[node], tree.right[node]);
            }
        }

        private void findEnds(Tree tree, int node, int left, int right) {
            switch (tree.kind[node]) {
                case Tree.LETTER:
                    addSpot(node, left);
                    break;
                case Tree.SUM:
                    include(firsts, node, firsts, left);
                    include(firsts, node, firsts, right);
                    include(lasts, node, lasts, left);
                    include(lasts, node, lasts, right);
                    break;
                case Tree.PRODUCT:
                    chain(left, right);
                    include(firsts, node, firsts, left);
                    include(lasts, node, lasts, right);
                    if (tree.leastOf(left) == 0) {
                        include(firsts, node, firsts, right);
                    }
                    if (tree.leastOf(right) == 0) {
                        include(lasts, node, lasts, left);
                    }
                    break;
                case Tree.STAR:
                    chain(left, left);
                    include(firsts, node, firsts, left);
                    include(lasts, node, lasts, left);
                    break;
                default:
                    break;
            }
        }

        private void addSpot(int node, int letter) {
            if (spots < 0 || spots >= TEXT_ROOM) {
                return;
            }
            insert(firsts, node, spots);
            insert(lasts, node, spots);
            insert(spotsOf, letter, spots);
            spots++;
        }

        /** After each last spot of one node each first spot of the other one can follow. */
        private void chain(int one, int other) {
            for (int spot = 0; spot < spots; spot++) {
                if (contains(lasts, one, spot)) {
                    include(follows, spot, firsts, other);
                }
            }
        }

        private static boolean hasRow(long[] rows, int row) {
            return row >= 0 && row < rows.length / HALVES;
        }

        private static void insert(long[] rows, int row, int spot) {
            if (hasRow(rows, row) && spot >= 0 && spot < HALVES * HALF_SPOTS) {
                rows[HALVES * row + spot / HALF_SPOTS] |= 1L << spot % HALF_SPOTS;
            }
        }

        private static boolean contains(long[] rows, int row, int spot) {
            return hasRow(rows, row) && spot >= 0 && spot < HALVES * HALF_SPOTS
                && (rows[HALVES * row + spot / HALF_SPOTS] >>> spot % HALF_SPOTS & 1) != 0;
        }

        private static void include(long[] rows, int row, long[] others, int other) {
            if (hasRow(rows, row) && hasRow(others, other)) {
                for (int half = 0; half < HALVES; half++) {
                    rows[HALVES * row + half] |= others[HALVES * other + half];
                }
            }
        }

        private static boolean shares(long[] rows, int row, long[] others, int other) {
            if (!hasRow(rows, row) || !hasRow(others, other)) {
                return false;
            }
            boolean found = false;
            for (int half = 0; half < HALVES; half++) {
                found |= (rows[HALVES * row + half] & others[HALVES * other + half]) != 0;
            }
            return found;
        }
    }
}
