import java.lang.management.ManagementFactory;

/** The dearest calls, as many of each as an object is used for once it has been filled, and what they make. */
public final class RoomTest {
    // 7.3 million fields and elements of at most 8 bytes each, with some room for headers left out.
    private static final long BYTES_OF_A_RUN = 7_300_000L * 4;
    // Filling an object takes some 240 of its 512 calls.
    private static final int CALLS = 270;

    private static int wrong;

    private static long made() {
        return ((com.sun.management.ThreadMXBean) ManagementFactory.getThreadMXBean())
            .getThreadAllocatedBytes(Thread.currentThread().getId());
    }

    private static void due(String what, boolean holds) {
        if (!holds) {
            wrong++;
            System.out.println(what);
        }
    }

    private static CommutingWords dearest() {
        CommutingWords x = new CommutingWords();
        x.setLetters(6);
        for (int a = 0; a < 6; a++) {
            for (int b = a + 1; b < 6; b++) {
                x.setIndependent(a, b, true);
            }
        }
        x.setStates(6);
        for (int q = 0; q < 6; q++) {
            x.setAccepting(q, true);
            for (int a = 0; a < 6; a++) {
                x.setArrow(q, a, (q * a + q + 5 * a) % 6);
            }
        }
        for (int w = 0; w < 6; w++) {
            for (int i = 0; i < 16; i++) {
                x.add(w, (i + w) % 6);
            }
        }
        return x;
    }

    private static void write(CommutingWords x, String text) {
        x.clearText();
        for (char c : text.toCharArray()) {
            x.append(c);
        }
    }

    private static long call(CommutingWords x, int kind) {
        switch (kind) {
            case 0:
                return x.checksum();
            case 1:
                return x.matches(0);
            case 2:
                return x.isFactor(0, 1);
            case 3:
                return x.different(16);
            case 4:
                return x.starConnected();
            case 5:
                return x.commute(0, 1);
            case 6:
                return x.exponent(0);
            case 7:
                return x.commonMultiple(0, 0, 1);
            default:
                return x.closed();
        }
    }

    public static void main(String[] args) {
        made();
        for (int kind = 0; kind <= 8; kind++) {
            long before = made();
            CommutingWords x = dearest();
            write(x, "((a+b+c+d+e+f)*(a+b+c+d+e+f)*)*(a+b+c+d+e+f)*(a+b+c+d+e+f)*aaaaaaaaaabbbbbb");
            long first = call(x, kind);
            for (int i = 1; i < CALLS; i++) {
                due("call " + kind + " changed its answer", call(x, kind) == first);
            }
            long bytes = made() - before;
            due("calls of kind " + kind + " made " + bytes + " bytes", bytes < BYTES_OF_A_RUN / 20);
        }
        long before = made();
        for (int i = 0; i < 100; i++) {
            due("a new object", new CommutingWords().length(0) == 0);
        }
        due("100 objects are too large", made() - before < BYTES_OF_A_RUN);

        CommutingWords x = dearest();
        // 16 letters, 3 of the first four each and 2 of the others each.
        due("alikeWords", x.alikeWords(0) == 4036032000L);
        due("acceptedAlike", x.acceptedAlike(0) == 4036032000L);
        long parts = 0;
        for (int q = 0; q < 6; q++) {
            for (int p = 0; p < 6; p++) {
                x.setAccepting(p, p == q);
            }
            parts += x.acceptedAlike(0);
        }
        due("acceptedAlike in parts", parts == 4036032000L);
        System.out.println(wrong == 0 ? "the calls keep within their room" : wrong + " wrong");
        if (wrong > 0) {
            System.exit(1);
        }
    }
}
