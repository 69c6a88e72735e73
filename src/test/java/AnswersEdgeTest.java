/** Where several answers are listed for one call: which of them comes when more than one could. */
public final class AnswersEdgeTest {
    private static final int BAD = AdjoinedSets.BAD;
    private static final int FULL = AdjoinedSets.FULL;
    private static final int OUT = AdjoinedSets.OUT;
    private static final int NO = AdjoinedSets.NO;
    private static final String FIFTY_SIX = "00000000".repeat(7);

    private final Check check = new Check();

    public static void main(String[] args) {
        AnswersEdgeTest test = new AnswersEdgeTest();
        test.typeIsBadBeforeFull();
        test.evalIsWrongBeforeOut();
        test.truthIsWrongBeforeOut();
        test.defineIsBadBeforeWrong();
        test.proveIsBadFirst();
        test.proveIsWrongBeforeFull();
        test.proveIsFullBeforeNo();
        test.refuteIsBadForItsBoundFirst();
        test.refuteIsWrongBeforeBadForLetters();
        test.refuteIsBadForLettersBeforeValues();
        test.firstOfSeveralWrongPlaces();
        test.check.end("AnswersEdgeTest");
    }

    /** Promise 2: "BAD when ..; FULL when ..". */
    private void typeIsBadBeforeFull() {
        AdjoinedSets x = new AdjoinedSets();
        Check.type(x, FIFTY_SIX + "0000");
        check.due("one more", x.type('0', 1), FULL);
        check.due("eight more", x.type(Check.packed("00000000"), 8), FULL);
        check.due("none more", x.type('0', 0), BAD);
        check.due("nine more", x.type(Check.packed("00000000"), 9), BAD);
        check.due("one more that cannot be typed", x.type(32, 1), BAD);
        check.due("eight more, the last of which cannot be typed", x.type(Check.packed("0000000 "), 8), BAD);
        check.due("eight more, the first of which cannot be typed", x.type(Check.packed(" 0000000"), 8), BAD);
        check.due("characters that are not asked for do not count", x.type(Check.packed(" 0"), 1), FULL);
        check.due("clear", x.clear(), 60);
    }

    /** Promise 5: what is wrong is not worked out. */
    private void evalIsWrongBeforeOut() {
        AdjoinedSets x = new AdjoinedSets();
        x.let(7, 62);
        check.eval(x, "Ph", OUT);
        check.eval(x, "Ph0", -102);
        check.eval(x, "+Ph", -103);
        check.eval(x, "+Phz", -103);
        check.eval(x, "IaPP3IbPP3IcPP3D", -115);
        check.eval(x, "IaPP3IbPP3IcPP30", OUT);
    }

    /** Promise 6: the same. */
    private void truthIsWrongBeforeOut() {
        AdjoinedSets x = new AdjoinedSets();
        x.let(7, 62);
        check.truth(x, "=0Ph", OUT);
        check.truth(x, "=0Ph0", -104);
        check.truth(x, "^=0Ph", -105);
        check.truth(x, "LaPP3LbPP3LcPP3=0", -117);
        check.truth(x, "LaPP3LbPP3LcPP3=00", OUT);
    }

    /** Promise 7: "BAD when ..; -100 - the place where the buffer is wrong as its body". */
    private void defineIsBadBeforeWrong() {
        AdjoinedSets x = new AdjoinedSets();
        check.define(x, 3, 1, "a", 0);
        check.define(x, 4, 1, "z", BAD);
        check.define(x, -1, 1, "z", BAD);
        check.define(x, 3, 1, "z", BAD);
        check.define(x, 0, 0, "z", BAD);
        check.define(x, 0, 4, "", BAD);
        check.define(x, 3, 0, "a", BAD);
        check.define(x, 0, 1, "z", -100);
        check.define(x, 0, 1, "", -100);
    }

    /** Promise 8: "BAD when ..", also when the buffer is wrong, there are 16 theorems, or the rule does not allow it. */
    private void proveIsBadFirst() {
        AdjoinedSets x = new AdjoinedSets();
        for (int k = 0; k < 17; k++) {
            check.prove(x, "z", 18, 0, 0, BAD);
            check.prove(x, "z", -1, 0, 0, BAD);
            check.prove(x, "z", 9, k, 0, k < x.theorems() ? -100 : BAD);
            check.prove(x, "z", 12, 0, k, x.theorems() > k ? -100 : BAD);
            check.prove(x, "z", 10, 0, 8, BAD);
            check.prove(x, "=ab", 11, 16, 0, BAD);
            check.prove(x, "=ab", 10, 16, 0, BAD);
            check.prove(x, "=ab", 10, 0, -1, BAD);
            check.prove(x, "=aa", 1, 0, 0, k < 16 ? k : FULL);
        }
    }

    /** Promise 8: "-100 - the place ..; FULL". */
    private void proveIsWrongBeforeFull() {
        AdjoinedSets x = withSixteen();
        check.prove(x, "z", 1, 0, 0, -100);
        check.prove(x, "=a", 1, 0, 0, -102);
        check.prove(x, "=aaa", 9, 0, 0, -103);
        check.prove(x, "", 10, 15, 7, -100);
        check.prove(x, "=aa", 1, 0, 0, FULL);
    }

    /** Promise 8: "FULL; NO". */
    private void proveIsFullBeforeNo() {
        AdjoinedSets x = withSixteen();
        for (int rule = 0; rule <= 17; rule++) {
            check.prove(x, "=ab", rule, 0, 0, FULL);
        }
        check.prove(x, "=bb", 10, 0, 0, FULL);
        check.due("theorems", x.theorems(), 16);
        AdjoinedSets y = new AdjoinedSets();
        for (int k = 0; k < 15; k++) {
            check.prove(y, "=aa", 1, 0, 0, k);
        }
        check.prove(y, "=ab", 1, 0, 0, NO);
        check.prove(y, "=bb", 10, 14, 0, 15);
        check.prove(y, "=ab", 1, 0, 0, FULL);
        check.prove(y, "=bb", 10, 15, 0, FULL);
    }

    private AdjoinedSets withSixteen() {
        AdjoinedSets x = new AdjoinedSets();
        for (int k = 0; k < 16; k++) {
            check.prove(x, "=aa", 1, 0, 0, k);
        }
        return x;
    }

    /** Promise 12: "BAD when k is not 1 .. 8", and the buffer stays, also when it is wrong or has three free letters. */
    private void refuteIsBadForItsBoundFirst() {
        int[] bounds = {0, 9};
        for (int k : bounds) {
            AdjoinedSets x = new AdjoinedSets();
            check.refute(x, "z", k, BAD);
            check.refute(x, "", k, BAD);
            check.refute(x, "=a", k, BAD);
            check.refute(x, "^=ab=cd", k, BAD);
            check.refute(x, "=01", k, BAD);
        }
    }

    /** Promise 12: "-100 - the place where it is wrong; BAD when it has more than two free letters". */
    private void refuteIsWrongBeforeBadForLetters() {
        AdjoinedSets x = new AdjoinedSets();
        check.refute(x, "^=ab=c", 8, -106);
        check.refute(x, "^=ab=cz", 8, -106);
        check.refute(x, "^=ab=cdd", 8, -107);
        check.refute(x, "^=ab=cd", 8, BAD);
    }

    /** Promise 12: three free letters are BAD, whether it would hold or not, or be OUT. */
    private void refuteIsBadForLettersBeforeValues() {
        AdjoinedSets x = new AdjoinedSets();
        check.refute(x, "^=01^=ab=cc", 8, BAD);
        check.refute(x, "v=00^=ab=cc", 1, BAD);
        check.refute(x, "^=0PPPP3^=ab=cc", 1, BAD);
        check.refute(x, "^=01^=ab=bb", 8, 0);
        check.refute(x, "v=00^=ab=bb", 1, NO);
        check.refute(x, "^=0PPPP3^=ab=bb", 1, NO);
    }

    /** "It is WRONG at the first place": the first of several. */
    private void firstOfSeveralWrongPlaces() {
        AdjoinedSets x = new AdjoinedSets();
        check.eval(x, "+zz", -101);
        check.eval(x, "+0zz", -102);
        check.eval(x, "z+", -100);
        check.eval(x, "{z=0", -101);
        check.eval(x, "{a=z", -102);
        check.eval(x, "00z", -101);
        check.truth(x, "^=0z", -103);
        check.truth(x, "EzzA", -101);
        check.truth(x, "=A0B0", -101);
        check.eval(x, "UUUUUUUUUUUUz", -112);
    }
}
