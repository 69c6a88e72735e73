/**
 * Calls that were refused, wrong or OUT, buffers that were full, letters and functions that had another meaning: each of
 * these pasts, put before each of the probes, must not change what the probe answers.
 */
public final class HistoryEdgeTest {
    private static final int BAD = AdjoinedSets.BAD;
    private static final int FULL = AdjoinedSets.FULL;
    private static final int OUT = AdjoinedSets.OUT;
    private static final int NO = AdjoinedSets.NO;
    private static final int PASTS = 22;
    private static final int FIRST_NEW = 5;
    private static final String SIXTY = "T|h||h|hh||h|hh|h|hh".repeat(3);

    /** By each rule in turn: a formula, the theorems i and j, and what it rests on besides itself. */
    private static final Object[][] LAWS = {
        {"v=ab!=ab", 0, 0, 0}, {"=TbTb", 0, 0, 0}, {">=ab><ac<bc", 0, 0, 0}, {">=ab><ca<cb", 0, 0, 0},
        {"!<c0", 0, 0, 0}, {"><a+bcv<ab=ac", 0, 0, 0}, {">v<ab=ac<a+bc", 0, 0, 0},
        {">^Lca<cbLcb<ca=ab", 0, 0, 0}, {">Lab=aa><cb=cc", 0, 0, 0}, {"=aa", 1, 2, 6}, {"=PbPb", 1, 0, 2},
        {"Lab<ab", 0, 0, 1}, {"v<ab!<ab", 3, 4, 24}, {"=A12-21", 0, 0, 0}, {"><a{cb<ca^<ab<aa", 0, 0, 0},
        {">^<ab<aa<a{cb<ca", 0, 0, 0}, {">Eab=aa!Lab!=aa", 0, 0, 0}, {">!Lab!=aaEab=aa", 0, 0, 0},
    };

    private final Check check = new Check();

    public static void main(String[] args) {
        HistoryEdgeTest test = new HistoryEdgeTest();
        for (int past = 0; past < PASTS; past++) {
            test.worksOut(test.madeWith(past));
            test.reads(test.madeWith(past));
            test.defines(test.madeWith(past));
            test.refutes(test.madeWith(past));
            test.tells(test.madeWith(past));
            for (int rule = 0; rule < LAWS.length; rule++) {
                test.proves(test.madeWith(past), rule);
            }
        }
        test.check.end("HistoryEdgeTest");
    }

    private AdjoinedSets madeWith(int past) {
        AdjoinedSets x = new AdjoinedSets();
        for (int letter = 0; letter < 8; letter++) {
            check.due("let", x.let(letter, 3 + letter), true);
        }
        check.define(x, 0, 2, "-ba", 0);
        check.prove(x, "><ab<ab", 0, 0, 0, 0);
        check.prove(x, "=aa", 1, 0, 0, 1);
        check.prove(x, ">=aa=aa", 0, 0, 0, 2);
        check.prove(x, "v<0b!<0b", 0, 0, 0, 3);
        check.prove(x, ">v<ab!<abv<+acb!<+acb", 0, 0, 0, 4);
        if (past < PASTS / 2) {
            workPast(x, past);
        } else {
            lawPast(x, past - PASTS / 2);
        }
        return x;
    }

    private void workPast(AdjoinedSets x, int past) {
        switch (past) {
            case 1 -> {
                check.due("type of none", x.type('0', 0), BAD);
                check.due("type of nine", x.type('0', 9), BAD);
                check.due("type of a space", x.type(' ', 1), BAD);
            }
            case 2 -> {
                check.due("type of sixty", Check.type(x, SIXTY), 60);
                check.due("type of one more", x.type('0', 1), FULL);
                check.due("clear", x.clear(), 60);
            }
            case 3 -> {
                check.eval(x, SIXTY, -120);
                check.truth(x, SIXTY, -100);
            }
            case 4 -> check.eval(x, "IaPP3IbPP3IcPP3IdPP3IePP3h", OUT);
            case 5 -> {
                check.eval(x, "Ia4Ib4Ic4Id4Ie4If4Ig4Ih4+hP9", OUT);
                check.truth(x, "Ea4Lb4Ec4Ld4Ee4Lf4Eg4Lh4=0+hP9", OUT);
            }
            case 6 -> {
                check.eval(x, "IaPP3A", -106);
                check.eval(x, "A0", -102);
                check.eval(x, "UUUUUUUUUUUUU0", -112);
                check.eval(x, "{ab", -103);
                check.eval(x, "{hhE", -104);
            }
            case 7 -> {
                check.due("let of no letter", x.let(8, 0), false);
                check.due("let of no set", x.let(0, -1), false);
                check.due("let of no set", x.let(7, 1L << 62), false);
            }
            case 8 -> {
                for (int letter = 0; letter < 8; letter++) {
                    check.due("let", x.let(letter, 61), true);
                }
                check.eval(x, "|a|b|c|d|e|f|gh", 61);
                for (int letter = 0; letter < 8; letter++) {
                    check.due("let", x.let(letter, 3 + letter), true);
                }
            }
            case 9 -> {
                check.refute(x, "LcPP3LdPP3LePP3=ab", 8, NO);
                check.refute(x, "=aPPPPb", 8, 0);
                check.refute(x, "^=ab=cc", 8, BAD);
                check.refute(x, "=a", 8, -102);
                check.refute(x, "=gh", 0, BAD);
            }
            case 10 -> {
                check.refute(x, "=Ib7hIg7h", 8, NO);
                check.refute(x, "!=h5", 8, 64 * 5);
                check.refute(x, "=01", 1, 0);
            }
            default -> { }
        }
    }

    private void lawPast(AdjoinedSets x, int past) {
        switch (past) {
            case 1 -> {
                check.define(x, 0, 2, "a", BAD);
                check.define(x, 4, 1, "a", BAD);
                check.define(x, 1, 0, "a", BAD);
                check.define(x, 1, 4, "a", BAD);
            }
            case 2 -> {
                check.define(x, 1, 3, "IdaBdbd0", -107);
                check.define(x, 1, 3, "+Idad", -105);
                check.define(x, 1, 2, "IdaBb", -104);
                check.define(x, 1, 1, "IaaIbaBb", -107);
                check.define(x, 1, 1, "Idad0", -104);
            }
            case 3 -> {
                check.define(x, 1, 1, "UUUUUUUUUUUUUa", -112);
                check.define(x, 1, 1, "Id", -102);
                check.define(x, 1, 1, "c", -100);
                check.define(x, 2, 1, "Ba", -100);
                check.define(x, 3, 3, "|a|b|c|d0", -107);
            }
            case 4 -> {
                for (int rule = 0; rule <= 17; rule++) {
                    check.prove(x, "=ab", rule, 0, 0, NO);
                }
            }
            case 5 -> {
                for (int rule = 0; rule <= 17; rule++) {
                    check.prove(x, "=a", rule, 0, 0, -102);
                }
                check.prove(x, "^=aa", 0, 0, 0, -104);
            }
            case 6 -> {
                check.prove(x, "=aa", 18, 0, 0, BAD);
                check.prove(x, "=aa", 9, 1, 5, BAD);
                check.prove(x, "=aa", 12, 5, 4, BAD);
                check.prove(x, "=aa", 10, 1, 8, BAD);
                check.prove(x, "=aa", 11, -1, 0, BAD);
            }
            case 7 -> check.prove(x, "v=00v=11v=22v=33v=44v=55=66", 0, 0, 0, NO);
            case 8 -> {
                check.prove(x, ">Lab=aa><cb=ca", 8, 0, 0, NO);
                check.prove(x, ">Lab=aa><bbEab=ab", 8, 0, 0, NO);
                check.prove(x, "=PbPc", 10, 1, 0, NO);
                check.prove(x, "=A12-12", 13, 0, 0, NO);
                check.prove(x, "v<ab!<ab", 12, 4, 3, NO);
            }
            case 9 -> {
                check.prove(x, ">^Laa<abLab<aa=ab", 7, 0, 0, NO);
                check.prove(x, "Laa<aa", 11, 0, 0, NO);
                check.prove(x, "><a{cb<ca^<ab<ac", 14, 0, 0, NO);
                check.prove(x, ">^<ab<ac<a{cb<ca", 15, 0, 0, NO);
            }
            case 10 -> {
                check.due("theorem that is not there", x.theorem(5, 0), BAD);
                check.due("character that is not there", x.theorem(1, 3), BAD);
                check.due("rests of none", x.rests(5), BAD);
                check.due("size of none", x.size(-1), BAD);
                check.due("rank of none", x.rank(1L << 62), BAD);
            }
            default -> { }
        }
    }

    private void worksOut(AdjoinedSets x) {
        for (int letter = 0; letter < 8; letter++) {
            check.eval(x, "" + (char) ('a' + letter), 3 + letter);
        }
        check.eval(x, "|g+0h", 9 | 1 << 10);
        check.eval(x, "Iba+bb", 1 << 1 | 1 << 3);
        check.eval(x, "{bT8<bh", 10);
        check.eval(x, "A19", 8);
        check.eval(x, "IbhA1b", 1 << 0 | 1 << 2);
        check.eval(x, "Ph", 1 | 1 << 2 | 1 << 8 | 1 << 10);
        check.truth(x, "^Ebh=b3Lbh<bh", 1);
        check.truth(x, "v<hg=gh", 0);
        check.eval(x, "UIa3UIb3Ic3|a|bc", 1 << 0 | 1 << 1);
    }

    private void reads(AdjoinedSets x) {
        check.eval(x, "B0", -100);
        check.eval(x, "UUUUUUUUUUUUU", -112);
        check.eval(x, "UUUUUUUUUUU0", 0);
        check.eval(x, "A9", -102);
        check.eval(x, "A999", -103);
        check.truth(x, "h", -100);
        check.truth(x, "", -100);
        check.eval(x, "", -100);
        check.eval(x, "i", -100);
    }

    private void defines(AdjoinedSets x) {
        check.define(x, 1, 1, "|aUIbaBb", 0);
        check.eval(x, "B8", 11);
        check.define(x, 2, 2, "IdaCdb", 0);
        check.eval(x, "C8h", 8);
        check.define(x, 3, 3, "-a&bc", 0);
        check.eval(x, "Dhgf", 2);
        check.eval(x, "Ahg", 1);
        check.prove(x, "=B8|8UIb8Bb", 13, 0, 0, FIRST_NEW);
        check.prove(x, "=Dhgf-h&gf", 13, 0, 0, FIRST_NEW + 1);
    }

    private void refutes(AdjoinedSets x) {
        check.refute(x, "=ab", 8, 1);
        check.refute(x, "!=h5", 8, 64 * 5);
        check.refute(x, "!^=g3=h4", 8, 64 * 3 + 4);
        check.refute(x, "=hh", 8, NO);
        check.refute(x, "Lab=aa", 8, NO);
        check.refute(x, "=01", 8, 0);
        check.eval(x, "h", 10);
    }

    private void tells(AdjoinedSets x) {
        check.due("theorems", x.theorems(), FIRST_NEW);
        String[] texts = {"><ab<ab", "=aa", ">=aa=aa", "v<0b!<0b", ">v<ab!<abv<+acb!<+acb", ""};
        for (int i = 0; i < texts.length; i++) {
            for (int k = 0; k < texts[i].length(); k++) {
                check.due("theorem", x.theorem(i, k), texts[i].charAt(k));
            }
            check.due("behind a theorem", x.theorem(i, texts[i].length()), BAD);
            check.due("rests", x.rests(i), i < FIRST_NEW ? 1 << i : BAD);
        }
        check.due("size", x.size(11), 3);
        check.due("rank", x.rank(11), 3);
        check.due("clear", x.clear(), 0);
    }

    private void proves(AdjoinedSets x, int rule) {
        Object[] law = LAWS[rule];
        int i = (Integer) law[1];
        int j = (Integer) law[2];
        check.prove(x, "=gh", rule, i, j, NO);
        check.prove(x, (String) law[0], rule, i, j, FIRST_NEW);
        check.due("rests by rule " + rule, x.rests(FIRST_NEW), (Integer) law[3] | 1 << FIRST_NEW);
        check.prove(x, (String) law[0], rule, i, j, FIRST_NEW + 1);
        for (int k = FIRST_NEW + 2; k < 16; k++) {
            check.prove(x, "=hh", 1, 0, 0, k);
        }
        check.prove(x, (String) law[0], rule, i, j, FULL);
    }
}
