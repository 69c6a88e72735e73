/** Promise 12: refute. */
public final class RefuteTest {
    private static final int BAD = AdjoinedSets.BAD;
    private static final int NO = AdjoinedSets.NO;

    public static void main(String[] args) {
        Check check = new Check();
        findsFirstValues(check);
        passesOverOut(check);
        refusesWrongInputs(check);
        triesUpToTheBound(check);
        countsFirstLetterMost(check);
        countsFreeLettersAlone(check);
        takesTheFirstValues(check);
        needsNoLetter(check);
        check.end("RefuteTest");
    }

    private static void findsFirstValues(Check check) {
        AdjoinedSets x = new AdjoinedSets();
        x.let(0, 50);
        x.let(1, 60);
        check.refute(x, "=00", 8, NO);
        check.refute(x, "=01", 8, 0);
        check.refute(x, "!=a5", 8, 64 * 5);
        check.refute(x, "!=a5", 6, 64 * 5);
        check.refute(x, "!=a5", 5, NO);
        check.refute(x, "!=h7", 8, 64 * 7);
        check.refute(x, "!=h7", 7, NO);
        check.refute(x, "=ab", 8, 1);
        check.refute(x, "=ab", 1, NO);
        check.refute(x, "!^=a3=b6", 8, 64 * 3 + 6);
        check.refute(x, "!^=b3=a6", 8, 64 * 6 + 3);
        check.refute(x, "!^=g6=c2", 8, 64 * 2 + 6);
        check.refute(x, "!<ab", 8, 1);
        check.refute(x, "!!!!!!!!!!=0a", 8, 64);
        check.refute(x, "Lc1=ba", 8, 1);
        check.refute(x, "Lc1=|bca", 8, 1);
        check.refute(x, "!^<01<ab", 2, 1);
        check.refute(x, ">^Lca<cbLcb<ca=ab", 8, NO);
        check.refute(x, "LcaLdaLea>^<cd<de<ce", 8, 64 * 7);
        check.refute(x, ">=ab=ba", 8, NO);
        check.refute(x, "^Lab=aa!=a2", 8, 64 * 2);
        check.define(x, 0, 2, "-ab", 0);
        check.refute(x, "=Aab0", 8, 64);
        check.eval(x, "a", 50);
        check.eval(x, "b", 60);
    }

    private static void passesOverOut(Check check) {
        AdjoinedSets x = new AdjoinedSets();
        // With 0 for a, P would be taken of 65535.
        check.refute(x, "=0PPPP-1a", 2, 64);
        check.refute(x, "=0PPPP-1a", 1, NO);
        check.refute(x, "=PPPP-1aPPPP-1a", 2, NO);
        // Each of the 64 costs some 2700.
        check.define(x, 0, 1, "{bPP3LcPP3Ld1=dd", 0);
        check.eval(x, "A0", 65535);
        check.refute(x, "v!=AaAb!^=a7=b7", 8, 64 * 7 + 7);
    }

    private static void refusesWrongInputs(Check check) {
        AdjoinedSets x = new AdjoinedSets();
        int[] wrong = {0, 9, -1, Integer.MIN_VALUE, Integer.MAX_VALUE};
        for (int k : wrong) {
            check.refute(x, "=ab", k, BAD);
        }
        check.refute(x, "z", 0, BAD);
        check.refute(x, "", 8, -100);
        check.refute(x, "=a", 8, -102);
        check.refute(x, "=aab", 8, -103);
        check.refute(x, "^=ab=c", 8, -106);
        check.refute(x, "^=ab=cc", 8, BAD);
        check.refute(x, "^=ab=cd", 1, BAD);
        check.refute(x, "Lca=ba", 8, 64);
        check.refute(x, "Lca=bc", 8, 65);
    }

    /** "The first values, from 0 up to k - 1": for each k from 1 to 8. */
    private static void triesUpToTheBound(Check check) {
        for (int k = 1; k <= 8; k++) {
            AdjoinedSets x = new AdjoinedSets();
            for (int v = 0; v <= 8; v++) {
                check.refute(x, "!=a" + v, k, v < k ? 64 * v : NO);
            }
            for (int v = 0; v < 8; v++) {
                AdjoinedSets y = new AdjoinedSets();
                for (int w = 0; w < 8; w++) {
                    check.refute(y, "!^=a" + v + "=b" + w, k, v < k && w < k ? 64 * v + w : NO);
                }
            }
        }
    }

    /** "the first one by the alphabet counts most": for each two letters, whichever stands first. */
    private static void countsFirstLetterMost(Check check) {
        for (char first = 'a'; first <= 'h'; first++) {
            AdjoinedSets x = new AdjoinedSets();
            check.refute(x, "!=" + first + "6", 8, 64 * 6);
            for (char second = (char) (first + 1); second <= 'h'; second++) {
                check.refute(x, "!^=" + first + "2=" + second + "5", 8, 64 * 2 + 5);
                check.refute(x, "!^=" + second + "5=" + first + "2", 8, 64 * 2 + 5);
                check.refute(x, "=" + first + second, 8, 1);
                check.refute(x, "=" + second + first, 8, 1);
                check.refute(x, "<" + second + first, 8, 0);
            }
        }
    }

    /** "the letters that are free in the buffer as a formula (at most two ..": bound ones do not count. */
    private static void countsFreeLettersAlone(Check check) {
        AdjoinedSets x = new AdjoinedSets();
        check.refute(x, "Lca=cb", 8, 64 + 1);
        check.refute(x, "^LcaLda=cdv=b0=bb", 8, 64 * 3);
        check.refute(x, "EcaEdaEe0=fb", 8, BAD);
        check.refute(x, "EcaEdaEe0=cb", 8, 0);
        check.refute(x, "Lca=cc", 8, NO);
        check.refute(x, "=Ica{d0=ee0", 8, 64);
        check.refute(x, "=Ica{db=ee0", 8, BAD);
        check.refute(x, "^Lca=ccEc1!=bb", 8, 0);
        // Here c is free as well as bound, and is the third.
        check.refute(x, "^Lca=cb=cc", 8, BAD);
        check.refute(x, "Lcc=ab", 8, BAD);
        check.refute(x, "^Lc1=c0!=c4", 8, 64 * 4);
        check.refute(x, "=|a|b|c|d|e|f|gh0", 8, BAD);
        check.define(x, 0, 3, "|a|bc", 0);
        check.refute(x, "=A000d", 8, 64);
        check.refute(x, "=Aabc0", 8, BAD);
        check.refute(x, "=Aabb0", 8, 1);
    }

    /** "The first values .. with which it does not hold": those of the least number, though others do not hold either. */
    private static void takesTheFirstValues(Check check) {
        AdjoinedSets x = new AdjoinedSets();
        check.refute(x, "=01", 8, 0);
        check.refute(x, "=a|a1", 8, 0);
        check.refute(x, "v=a0=a1", 8, 64 * 2);
        check.refute(x, "v=b0=b1", 3, 64 * 2);
        check.refute(x, "v=b0=b1", 2, NO);
        check.refute(x, "v=a0v=b0=b1", 8, 64 + 2);
        check.refute(x, "v=b0v=a0=a1", 8, 64 * 2 + 1);
        check.refute(x, "!^<1a<1b", 8, 64 * 2 + 2);
        check.refute(x, "!^<1a<2b", 8, 64 * 2 + 4);
        check.refute(x, "!^<1a<2b", 4, NO);
    }

    /** With no free letter there are no values to be told: 0 when it does not hold, else NO. */
    private static void needsNoLetter(Check check) {
        AdjoinedSets x = new AdjoinedSets();
        for (int k = 1; k <= 8; k++) {
            check.refute(x, "=01", k, 0);
            check.refute(x, "=00", k, NO);
            check.refute(x, "=0PPPP3", k, NO);
            check.refute(x, "Ea7=a3", k, 0);
        }
    }
}
