/** Promise 12: refute. */
public final class RefuteTest {
    private static final int BAD = AdjoinedSets.BAD;
    private static final int NO = AdjoinedSets.NO;

    public static void main(String[] args) {
        Check check = new Check();
        findsFirstValues(check);
        passesOverOut(check);
        refusesWrongInputs(check);
        check.end("RefuteTest");
    }

    private static void findsFirstValues(Check check) {
        AdjoinedSets x = new AdjoinedSets();
        x.let(0, 50);
        x.let(1, 60);
        check.refute(x, "=00", 8, NO);
        check.refute(x, "=01", 8, 0);
        check.refute(x, "!=a5", 8, 64 * 5);
        check.refute(x, "!=a5", 6, 64 * 5);
        check.refute(x, "!=a5", 5, NO);
        check.refute(x, "!=h7", 8, 64 * 7);
        check.refute(x, "!=h7", 7, NO);
        check.refute(x, "=ab", 8, 1);
        check.refute(x, "=ab", 1, NO);
        check.refute(x, "!^=a3=b6", 8, 64 * 3 + 6);
        check.refute(x, "!^=b3=a6", 8, 64 * 6 + 3);
        check.refute(x, "!^=g6=c2", 8, 64 * 2 + 6);
        check.refute(x, "!<ab", 8, 1);
        check.refute(x, "!!!!!!!!!!=0a", 8, 64);
        check.refute(x, "Lc1=ba", 8, 1);
        check.refute(x, "Lc1=|bca", 8, 1);
        check.refute(x, "!^<01<ab", 2, 1);
        check.refute(x, ">^Lca<cbLcb<ca=ab", 8, NO);
        check.refute(x, "LcaLdaLea>^<cd<de<ce", 8, 64 * 7);
        check.refute(x, ">=ab=ba", 8, NO);
        check.refute(x, "^Lab=aa!=a2", 8, 64 * 2);
        check.define(x, 0, 2, "-ab", 0);
        check.refute(x, "=Aab0", 8, 64);
        check.eval(x, "a", 50);
        check.eval(x, "b", 60);
    }

    private static void passesOverOut(Check check) {
        AdjoinedSets x = new AdjoinedSets();
        // With 0 for a, P would be taken of 65535.
        check.refute(x, "=0PPPP-1a", 2, 64);
        check.refute(x, "=0PPPP-1a", 1, NO);
        check.refute(x, "=PPPP-1aPPPP-1a", 2, NO);
        // Each of the 64 costs some 2700.
        check.define(x, 0, 1, "{bPP3LcPP3Ld1=dd", 0);
        check.eval(x, "A0", 65535);
        check.refute(x, "v!=AaAb!^=a7=b7", 8, 64 * 7 + 7);
    }

    private static void refusesWrongInputs(Check check) {
        AdjoinedSets x = new AdjoinedSets();
        int[] wrong = {0, 9, -1, Integer.MIN_VALUE, Integer.MAX_VALUE};
        for (int k : wrong) {
            check.refute(x, "=ab", k, BAD);
        }
        check.refute(x, "z", 0, BAD);
        check.refute(x, "", 8, -100);
        check.refute(x, "=a", 8, -102);
        check.refute(x, "=aab", 8, -103);
        check.refute(x, "^=ab=c", 8, -106);
        check.refute(x, "^=ab=cc", 8, BAD);
        check.refute(x, "^=ab=cd", 1, BAD);
        check.refute(x, "Lca=ba", 8, 64);
        check.refute(x, "Lca=bc", 8, 65);
    }
}
