/** Promise 4: let. */
public final class LetTest {
    private static final long MOST = (1L << 62) - 1;

    public static void main(String[] args) {
        Check check = new Check();
        AdjoinedSets x = new AdjoinedSets();
        for (int letter = 0; letter < 8; letter++) {
            check.due("let of letter " + letter, x.let(letter, 1000 + letter), true);
        }
        for (int letter = 0; letter < 8; letter++) {
            check.eval(x, "" + (char) ('a' + letter), 1000 + letter);
        }
        check.due("let of the greatest code", x.let(0, MOST), true);
        check.eval(x, "a", MOST);
        check.due("let of 0", x.let(0, 0), true);
        check.eval(x, "a", 0);
        refusesWrongInputs(check, x);
        check.end("LetTest");
    }

    private static void refusesWrongInputs(Check check, AdjoinedSets x) {
        int[] letters = {-1, 8, 97, Integer.MIN_VALUE, Integer.MAX_VALUE};
        for (int letter : letters) {
            check.due("let of letter " + letter, x.let(letter, 3), false);
        }
        long[] codes = {-1, MOST + 1, Long.MIN_VALUE, Long.MAX_VALUE};
        for (long code : codes) {
            check.due("let of code " + code, x.let(7, code), false);
        }
        check.eval(x, "h", 1007);
    }
}
