public final class PromiseTest {
    public static void main(String[] args) {
        CommutingWords x = new CommutingWords();
        if (x.setLetters(4) != 4) { System.exit(1); }
    }
}
