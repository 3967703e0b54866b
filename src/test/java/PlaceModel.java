import java.util.ArrayList;
import java.util.BitSet;
import java.util.List;

/**
 * A word of up to 16 letters by the sets of its places that can stand in front, each a bit mask: it finds
 * answers for words with so many alike ones that they can't be listed.
 */
final class PlaceModel {
    /** A part of an expression: '1', 'x' for a letter, '+', '.' or '*'. */
    record Part(char kind, char letter, List<Part> parts) {
        static Part letter(char c) {
            return new Part('x', c, List.of());
        }

        static Part empty() {
            return new Part('1', '1', List.of());
        }

        static Part star(Part inner) {
            return new Part('*', '*', List.of(inner));
        }

        static Part sum(Part one, Part other) {
            return new Part('+', '+', List.of(one, other));
        }

        static Part product(Part one, Part other) {
            return new Part('.', '.', List.of(one, other));
        }

        String text() {
            switch (kind) {
                case '+':
                    return parts.get(0).text() + "+" + parts.get(1).text();
                case '.':
                    return parts.get(0).inBrackets("+") + parts.get(1).inBrackets("+");
                case '*':
                    return parts.get(0).inBrackets("+.") + "*";
                default:
                    return "" + letter;
            }
        }

        private String inBrackets(String kinds) {
            return kinds.indexOf(kind) >= 0 ? "(" + text() + ")" : text();
        }
    }

    private final String word;
    private final boolean[][] free;
    private final int[] before;

    PlaceModel(String word, boolean[][] free) {
        this.word = word;
        this.free = free;
        before = new int[word.length()];
        for (int i = 0; i < word.length(); i++) {
            for (int j = 0; j < i; j++) {
                before[i] |= areFree(word.charAt(j), word.charAt(i)) ? 0 : 1 << j;
            }
        }
    }

    private boolean areFree(char x, char y) {
        return free[x - 'a'][y - 'a'];
    }

    private int whole() {
        return (1 << word.length()) - 1;
    }

    private boolean canFollow(int place, int front) {
        return (front >> place & 1) == 0 && (before[place] & ~front) == 0;
    }

    /** For each state the number of alike words that lead from state 0 to it. */
    long[] ends(int[][] arrows) {
        long[][] ways = new long[whole() + 1][arrows.length];
        ways[0][0] = 1;
        for (int front = 0; front < whole(); front++) {
            for (int place = 0; place < word.length(); place++) {
                for (int q = 0; q < arrows.length && canFollow(place, front); q++) {
                    ways[front | 1 << place][arrows[q][word.charAt(place) - 'a']] += ways[front][q];
                }
            }
        }
        return ways[whole()];
    }

    boolean matches(Part part) {
        BitSet start = new BitSet();
        start.set(0);
        return after(part, start).get(whole());
    }

    /** The fronts at which words of the part can end that start at one of the given fronts. */
    private BitSet after(Part part, BitSet starts) {
        BitSet found = new BitSet();
        switch (part.kind()) {
            case '1':
                return starts;
            case 'x':
                starts.stream().forEach(front -> found.or(step(front, part.letter())));
                return found;
            case '+':
                part.parts().forEach(p -> found.or(after(p, starts)));
                return found;
            case '.':
                return after(part.parts().get(1), after(part.parts().get(0), starts));
            default:
                found.or(starts);
                int size = 0;
                while (size != found.cardinality()) {
                    size = found.cardinality();
                    found.or(after(part.parts().get(0), (BitSet) found.clone()));
                }
                return found;
        }
    }

    private BitSet step(int front, char letter) {
        BitSet found = new BitSet();
        for (int place = 0; place < word.length(); place++) {
            if (word.charAt(place) == letter && canFollow(place, front)) {
                found.set(front | 1 << place);
            }
        }
        return found;
    }

    /** Whether the letters of u, one after the other, can be read from some front on. */
    boolean hasFactor(String u) {
        BitSet fronts = new BitSet();
        fronts.set(0);
        for (int front = 0; front <= whole(); front++) {
            for (int place = 0; place < word.length() && fronts.get(front); place++) {
                if (canFollow(place, front)) {
                    fronts.set(front | 1 << place);
                }
            }
        }
        for (char c : u.toCharArray()) {
            BitSet longer = new BitSet();
            fronts.stream().forEach(front -> longer.or(step(front, c)));
            fronts = longer;
        }
        return !fronts.isEmpty();
    }

    /** A word is known by its projections to each letter and to each two dependent letters. */
    static boolean alike(String u, String w, boolean[][] free) {
        return projections(u, free).equals(projections(w, free));
    }

    private static List<String> projections(String w, boolean[][] free) {
        List<String> found = new ArrayList<>();
        for (char x = 'a'; x <= 'f'; x++) {
            for (char y = x; y <= 'f'; y++) {
                if (!free[x - 'a'][y - 'a']) {
                    found.add(w.replaceAll("[^" + x + y + "]", ""));
                }
            }
        }
        return found;
    }

    /** A prefix's projections are prefixes, each letter as often as it has it. */
    static boolean isPrefix(String u, String w, boolean[][] free) {
        String rest = w;
        for (char c : u.toCharArray()) {
            int i = rest.indexOf(c);
            if (i < 0) {
                return false;
            }
            rest = rest.substring(0, i) + rest.substring(i + 1);
        }
        return alike(u + rest, w, free);
    }

    /** No exchange of neighbours, nor of a letter with a whole part, makes a normal form lower. */
    static boolean isNormal(String w, boolean[][] free) {
        for (int i = 0; i < w.length(); i++) {
            for (int j = i + 1; j < w.length(); j++) {
                String swapped = w.substring(0, i) + w.charAt(j) + w.substring(i, j) + w.substring(j + 1);
                if (swapped.compareTo(w) < 0 && alike(swapped, w, free)) {
                    return false;
                }
            }
        }
        return true;
    }
}
