/** Promise 5: eval, with what the document says of terms, reading and working out. */
public final class EvalTest {
    private static final long MOST = (1L << 62) - 1;
    private static final int OUT = AdjoinedSets.OUT;

    public static void main(String[] args) {
        Check check = new Check();
        adjoinsAndJoins(check);
        goesUpAndDown(check);
        bindsLetters(check);
        tellsWrongPlaces(check);
        readsTwelveDeep(check);
        spendsAtMost3000(check);
        opensAtMost32(check);
        check.end("EvalTest");
    }

    private static void adjoinsAndJoins(Check check) {
        AdjoinedSets x = new AdjoinedSets();
        for (int digit = 0; digit <= 9; digit++) {
            check.eval(x, "" + digit, digit);
        }
        check.eval(x, "+00", 1);
        check.eval(x, "+34", 19);
        check.eval(x, "+52", 5);
        check.eval(x, "+88", 264);
        check.eval(x, "|56", 7);
        check.eval(x, "&56", 4);
        check.eval(x, "-56", 1);
        check.eval(x, "-65", 2);
        x.let(0, 61);
        check.eval(x, "+3a", (1L << 61) + 3);
        x.let(0, 62);
        check.eval(x, "+3a", OUT);
        check.eval(x, "&0+3a", OUT);
        x.let(0, MOST);
        check.eval(x, "+0a", OUT);
        check.eval(x, "+a0", MOST);
        check.eval(x, "|a0", MOST);
        check.eval(x, "-a0", MOST);
    }

    private static void goesUpAndDown(Check check) {
        AdjoinedSets x = new AdjoinedSets();
        x.let(7, MOST);
        check.eval(x, "U9", 3);
        check.eval(x, "U0", 0);
        check.eval(x, "Uh", 63);
        check.eval(x, "P0", 1);
        check.eval(x, "P1", 3);
        check.eval(x, "P2", 5);
        check.eval(x, "P5", 51);
        long subsets = 0;
        for (int c = 0; c <= 61; c++) {
            subsets += (c | 61) == 61 ? 1L << c : 0;
        }
        x.let(0, 61);
        check.eval(x, "Pa", subsets);
        x.let(0, 62);
        check.eval(x, "Pa", OUT);
        check.eval(x, "Ph", OUT);
        check.eval(x, "T9", 11);
        check.eval(x, "T0", 0);
        check.eval(x, "Th", MOST);
        x.let(0, 1L << 61);
        check.eval(x, "Ta", (1L << 61) + 63);
        x.let(0, 1L << 16);
        check.eval(x, "Ta", 65559);
    }

    private static void bindsLetters(Check check) {
        AdjoinedSets x = new AdjoinedSets();
        x.let(7, MOST);
        check.eval(x, "{bh<0b", 0x2AAAAAAAAAAAAAAAL);
        check.eval(x, "{b0=bb", 0);
        check.eval(x, "Ib7+bb", 74);
        check.eval(x, "Ib75", 32);
        check.eval(x, "Ibhb", MOST);
        check.eval(x, "Ib0Ph", 0);
        check.eval(x, "Ib1h", OUT);
        check.eval(x, "Ib1|9|99", 512);
        x.let(1, 61);
        check.eval(x, "Ic1b", 1L << 61);
        x.let(1, 62);
        check.eval(x, "Ic1b", OUT);
        x.let(1, 8);
        check.eval(x, "|Ib3bb", 11);
        check.eval(x, "|{b3=bbb", 11);
        x.let(1, 5);
        check.eval(x, "Ibbb", 5);
        check.eval(x, "Ib3{b7<b3", 8);
        check.eval(x, "Ib3|{b7=b2b", 16 + 32);
    }

    private static void tellsWrongPlaces(Check check) {
        AdjoinedSets x = new AdjoinedSets();
        String[] operators = {"+", "|", "&", "-"};
        for (String operator : operators) {
            check.eval(x, operator, -101);
            check.eval(x, operator + "0", -102);
            check.eval(x, operator + "000", -103);
            check.eval(x, operator + "0=", -102);
        }
        check.eval(x, "", -100);
        check.eval(x, "i", -100);
        check.eval(x, "00", -101);
        check.eval(x, "=00", -100);
        check.eval(x, "F0", -100);
        check.eval(x, "@0", -100);
        check.eval(x, "Eb0=00", -100);
        check.eval(x, "Lb0=00", -100);
        check.eval(x, "U", -101);
        check.eval(x, "P=", -101);
        check.eval(x, "T00", -102);
        check.eval(x, "{", -101);
        check.eval(x, "{i0=00", -101);
        check.eval(x, "{00=00", -101);
        check.eval(x, "{b", -102);
        check.eval(x, "{b=00", -102);
        check.eval(x, "{b0", -103);
        check.eval(x, "{b00", -103);
        check.eval(x, "{b0=0", -105);
        check.eval(x, "{b0=000", -106);
        check.eval(x, "I", -101);
        check.eval(x, "Iz00", -101);
        check.eval(x, "Ib0=00", -103);
        check.eval(x, "Ib000", -104);
        check.eval(x, "+~#", -101);
    }

    private static void readsTwelveDeep(Check check) {
        AdjoinedSets x = new AdjoinedSets();
        String eleven = "UUUUUUUUUUU";
        check.eval(x, eleven + "0", 0);
        check.eval(x, eleven + "U0", -112);
        check.eval(x, eleven + "U", -112);
        check.eval(x, eleven + "+00", -112);
        check.eval(x, eleven + "{", -112);
        check.eval(x, eleven + "{0", -112);
        check.eval(x, eleven + "{b0=00", -113);
        check.eval(x, "+0" + eleven + "0", -113);
        check.eval(x, "+" + eleven.substring(1) + "00", 1);
        check.eval(x, eleven.substring(1) + "{b0=00", -114);
        check.define(x, 0, 1, "a", 0);
        check.eval(x, eleven.substring(1) + "A0", 0);
        check.eval(x, eleven + "A0", -112);
    }

    private static void spendsAtMost3000(Check check) {
        AdjoinedSets x = new AdjoinedSets();
        x.let(2, (1L << 46) - 1);
        x.let(3, MOST);
        x.let(4, (1L << 51) - 1);
        // 2 + 46 * (2 + 62) is 2946, 2 + 51 is 53, and | costs 1.
        check.eval(x, "|IacIbd0Iae0", 3);
        x.let(4, (1L << 52) - 1);
        check.eval(x, "|IacIbd0Iae0", OUT);
        check.define(x, 0, 1, "1", 0);
        x.let(4, (1L << 49) - 1);
        // A0 costs 3: itself, what it is given, and its body.
        check.eval(x, "|A0|IacIbd0Iae0", OUT);
        x.let(4, (1L << 47) - 1);
        check.eval(x, "|A0|IacIbd0Iae0", 3);
        x.let(4, (1L << 48) - 1);
        check.eval(x, "|A0|IacIbd0Iae0", OUT);
        check.eval(x, "Iac0", 1);
    }

    private static void opensAtMost32(Check check) {
        AdjoinedSets x = new AdjoinedSets();
        check.define(x, 0, 1, "UUUUUUUUUUUa", 0);
        check.define(x, 1, 1, "UUUUUUUUUUAa", 0);
        check.define(x, 2, 1, "UUUUUUUBa", 0);
        check.define(x, 3, 1, "UUUUUUUUBa", 0);
        check.eval(x, "C0", 0);
        check.eval(x, "D0", OUT);
        check.eval(x, "UC0", OUT);
        check.eval(x, "Ib0UC0", 0);
        eachPartIsOneDeeper(check);
    }

    private static void eachPartIsOneDeeper(Check check) {
        AdjoinedSets x = new AdjoinedSets();
        check.define(x, 0, 1, "UUUUUUUUUUUa", 0);
        check.define(x, 1, 1, "UUUUUUUUUUAa", 0);
        check.define(x, 2, 1, "UUUUUUBa", 0);
        check.define(x, 3, 2, "a", 0);
        // 31 are open in C0 when it stands alone.
        String[] terms = {"+0C0", "+C00", "-0C0", "|C00", "&0C0", "PC0", "TC0", "Ib1C0", "IbC0b", "{bC0=bb", "DC00", "D0C0"};
        for (String term : terms) {
            check.eval(x, "&0" + term, OUT);
            check.eval(x, "U" + term, OUT);
        }
        check.eval(x, "+0C0", 1);
        check.eval(x, "+C00", 1);
        check.eval(x, "-0C0", 0);
        check.eval(x, "PC0", 1);
        check.eval(x, "Ib1C0", 1);
        check.eval(x, "IbC0b", 0);
        check.eval(x, "{bC0=bb", 0);
        check.eval(x, "DC00", 0);
        check.eval(x, "D0C0", 0);
        check.truth(x, "=0C0", 1);
        check.truth(x, "<C00", 0);
        check.truth(x, "EbC0=00", 0);
        check.truth(x, "!=0C0", OUT);
        check.truth(x, "Lb1=0C0", OUT);
        // Here 30 are.
        AdjoinedSets y = new AdjoinedSets();
        check.define(y, 0, 1, "UUUUUUUUUUUa", 0);
        check.define(y, 1, 1, "UUUUUUUUUUAa", 0);
        check.define(y, 2, 1, "UUUUUBa", 0);
        check.eval(y, "{b1=0C0", 1);
        check.truth(y, "Lb1=0C0", 1);
        check.truth(y, "Eb1=C00", 1);
        check.truth(y, "!=0C0", 0);
        check.truth(y, "^=00=0C0", 1);
        check.truth(y, "v=0C0=00", 1);
        check.truth(y, "!!=0C0", OUT);
        check.truth(y, "!Lb1=0C0", OUT);
        check.eval(y, "{b1!=0C0", OUT);
    }
}
