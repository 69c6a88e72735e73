/** Promise 6: truth, with what the document says of formulas. */
public final class TruthTest {
    private static final int OUT = AdjoinedSets.OUT;

    public static void main(String[] args) {
        Check check = new Check();
        AdjoinedSets x = new AdjoinedSets();
        comparesAndConnects(check, x);
        quantifies(check, x);
        isOut(check, x);
        tellsWrongPlaces(check, x);
        check.end("TruthTest");
    }

    private static void comparesAndConnects(Check check, AdjoinedSets x) {
        check.truth(x, "=00", 1);
        check.truth(x, "=01", 0);
        check.truth(x, "<01", 1);
        check.truth(x, "<10", 0);
        check.truth(x, "<29", 0);
        check.truth(x, "<39", 1);
        x.let(7, (1L << 62) - 1);
        x.let(6, 61);
        check.truth(x, "<gh", 1);
        check.truth(x, "<hh", 0);
        x.let(6, 64);
        check.truth(x, "<g1", 0);
        String[] values = {"=01", "=00"};
        for (int f = 0; f < 2; f++) {
            check.truth(x, "!" + values[f], 1 - f);
            for (int g = 0; g < 2; g++) {
                String both = values[f] + values[g];
                check.truth(x, "^" + both, f == 1 && g == 1 ? 1 : 0);
                check.truth(x, "v" + both, f == 1 || g == 1 ? 1 : 0);
                check.truth(x, ">" + both, f == 0 || g == 1 ? 1 : 0);
            }
        }
    }

    private static void quantifies(Check check, AdjoinedSets x) {
        check.truth(x, "Eb5=b2", 1);
        check.truth(x, "Eb5=b1", 0);
        check.truth(x, "Eb0=bb", 0);
        check.truth(x, "Lb5!=b1", 1);
        check.truth(x, "Lb5=b2", 0);
        check.truth(x, "Lb0=01", 1);
        check.truth(x, "LbhEch=bc", OUT);
        check.truth(x, "Lb7Ec7<bPc", 1);
        x.let(1, 9);
        check.truth(x, "^Eb5=b2=b9", 1);
        check.truth(x, "Ebb=b3", 1);
        check.truth(x, "Eb5Eb9=b3", 1);
        check.truth(x, "Eb5^Eb9=b3=b2", 1);
        check.truth(x, "^Lb5Lb9=bb=b9", 1);
    }

    private static void isOut(Check check, AdjoinedSets x) {
        check.truth(x, "=+0h0", OUT);
        check.truth(x, "!=+0h0", OUT);
        check.truth(x, "^=+0h0=01", OUT);
        check.truth(x, "v=+0h0=00", OUT);
        check.truth(x, "Eb+0h=bb", OUT);
        check.truth(x, "Lb+0h=bb", OUT);
        check.truth(x, "v=00=0+0h", OUT);
        check.truth(x, "^=01=0+0h", OUT);
        check.truth(x, ">=01=0+0h", OUT);
        check.truth(x, "Eb3v=b0=0+0|b-hb", OUT);
        check.truth(x, "Lb0=0+0h", 1);
        x.let(2, (1L << 15) - 1);
        x.let(3, (1L << 61) - 1);
        x.let(4, (1L << 55) - 1);
        // 2 + 15 * (2 + 61 * 3) is 2777, 2 + 55 * 4 is 222, and ^ costs 1.
        check.truth(x, "^LacLbd=00Eae!=00", 0);
        x.let(4, (1L << 56) - 1);
        check.truth(x, "^LacLbd=00Eae!=00", OUT);
    }

    private static void tellsWrongPlaces(Check check, AdjoinedSets x) {
        check.truth(x, "", -100);
        check.truth(x, "0", -100);
        check.truth(x, "a", -100);
        check.truth(x, "A0", -100);
        check.truth(x, "=", -101);
        check.truth(x, "<0", -102);
        check.truth(x, "=000", -103);
        check.truth(x, "==00", -101);
        check.truth(x, "!0", -101);
        check.truth(x, "!!=00", 1);
        check.truth(x, "^=00", -104);
        check.truth(x, "v=000", -104);
        check.truth(x, ">=00=00=", -107);
        check.truth(x, "E", -101);
        check.truth(x, "L0", -101);
        check.truth(x, "Ei0=00", -101);
        check.truth(x, "Eb", -102);
        check.truth(x, "Lb=00", -102);
        check.truth(x, "Lb0", -103);
        check.truth(x, "Lb00", -103);
        check.truth(x, "V=00=00", -100);
        String ten = "!!!!!!!!!!";
        check.truth(x, ten + "=00", 1);
        check.truth(x, ten + "!=00", -112);
        check.truth(x, ten + "!!=00", -112);
        check.truth(x, ten + "!Eb0=00", -113);
        check.truth(x, ten + "Eb0=00", -114);
    }
}
