/** Promise 5: eval, with what the document says of terms, reading and working out. */
public final class EvalTest {
    private static final long MOST = (1L << 62) - 1;
    private static final int OUT = AdjoinedSets.OUT;

    public static void main(String[] args) {
        Check check = new Check();
        adjoinsAndJoins(check);
        goesUpAndDown(check);
        bindsLetters(check);
        tellsWrongPlaces(check);
        check.end("EvalTest");
    }

    private static void adjoinsAndJoins(Check check) {
        AdjoinedSets x = new AdjoinedSets();
        for (int digit = 0; digit <= 9; digit++) {
            check.eval(x, "" + digit, digit);
        }
        check.eval(x, "+00", 1);
        check.eval(x, "+34", 19);
        check.eval(x, "+52", 5);
        check.eval(x, "+88", 264);
        check.eval(x, "|56", 7);
        check.eval(x, "&56", 4);
        check.eval(x, "-56", 1);
        check.eval(x, "-65", 2);
        x.let(0, 61);
        check.eval(x, "+3a", (1L << 61) + 3);
        x.let(0, 62);
        check.eval(x, "+3a", OUT);
        check.eval(x, "&0+3a", OUT);
        x.let(0, MOST);
        check.eval(x, "+0a", OUT);
        check.eval(x, "+a0", MOST);
        check.eval(x, "|a0", MOST);
        check.eval(x, "-a0", MOST);
    }

    private static void goesUpAndDown(Check check) {
        AdjoinedSets x = new AdjoinedSets();
        x.let(7, MOST);
        check.eval(x, "U9", 3);
        check.eval(x, "U0", 0);
        check.eval(x, "Uh", 63);
        check.eval(x, "P0", 1);
        check.eval(x, "P1", 3);
        check.eval(x, "P2", 5);
        check.eval(x, "P5", 51);
        long subsets = 0;
        for (int c = 0; c <= 61; c++) {
            subsets += (c | 61) == 61 ? 1L << c : 0;
        }
        x.let(0, 61);
        check.eval(x, "Pa", subsets);
        x.let(0, 62);
        check.eval(x, "Pa", OUT);
        check.eval(x, "Ph", OUT);
        check.eval(x, "T9", 11);
        check.eval(x, "T0", 0);
        check.eval(x, "Th", MOST);
        x.let(0, 1L << 61);
        check.eval(x, "Ta", (1L << 61) + 63);
        x.let(0, 1L << 16);
        check.eval(x, "Ta", 65559);
    }

    private static void bindsLetters(Check check) {
        AdjoinedSets x = new AdjoinedSets();
        x.let(7, MOST);
        check.eval(x, "{bh<0b", 0x2AAAAAAAAAAAAAAAL);
        check.eval(x, "{b0=bb", 0);
        check.eval(x, "Ib7+bb", 74);
        check.eval(x, "Ib75", 32);
        check.eval(x, "Ibhb", MOST);
        check.eval(x, "Ib0Ph", 0);
        check.eval(x, "Ib1h", OUT);
        check.eval(x, "Ib1|9|99", 512);
        x.let(1, 61);
        check.eval(x, "Ic1b", 1L << 61);
        x.let(1, 62);
        check.eval(x, "Ic1b", OUT);
        x.let(1, 8);
        check.eval(x, "|Ib3bb", 11);
        check.eval(x, "|{b3=bbb", 11);
        x.let(1, 5);
        check.eval(x, "Ibbb", 5);
        check.eval(x, "Ib3{b7<b3", 8);
        check.eval(x, "Ib3|{b7=b2b", 16 + 32);
    }

    private static void tellsWrongPlaces(Check check) {
        AdjoinedSets x = new AdjoinedSets();
        String[] operators = {"+", "|", "&", "-"};
        for (String operator : operators) {
            check.eval(x, operator, -101);
            check.eval(x, operator + "0", -102);
            check.eval(x, operator + "000", -103);
            check.eval(x, operator + "0=", -102);
        }
        check.eval(x, "", -100);
        check.eval(x, "i", -100);
        check.eval(x, "00", -101);
        check.eval(x, "=00", -100);
        check.eval(x, "F0", -100);
        check.eval(x, "@0", -100);
        check.eval(x, "Eb0=00", -100);
        check.eval(x, "Lb0=00", -100);
        check.eval(x, "U", -101);
        check.eval(x, "P=", -101);
        check.eval(x, "T00", -102);
        check.eval(x, "{", -101);
        check.eval(x, "{i0=00", -101);
        check.eval(x, "{00=00", -101);
        check.eval(x, "{b", -102);
        check.eval(x, "{b=00", -102);
        check.eval(x, "{b0", -103);
        check.eval(x, "{b00", -103);
        check.eval(x, "{b0=0", -105);
        check.eval(x, "{b0=000", -106);
        check.eval(x, "I", -101);
        check.eval(x, "Iz00", -101);
        check.eval(x, "Ib0=00", -103);
        check.eval(x, "Ib000", -104);
        check.eval(x, "+~#", -101);
    }
}
