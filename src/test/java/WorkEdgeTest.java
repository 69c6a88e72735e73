/** The sentences under "Terms" on working out: each method stands for the sentence above it. */
public final class WorkEdgeTest {
    private static final long MOST = (1L << 62) - 1;
    private static final int OUT = AdjoinedSets.OUT;
    private static final int NO = AdjoinedSets.NO;
    // 1 + (2 + 46 * (2 + 62)) + (2 + members of e) is 2949 and one more for each member of e.
    private static final String DEAR = "|IacIbd0Iae0";
    private static final int DEAR_COSTS = 2949;

    private final Check check = new Check();

    public static void main(String[] args) {
        WorkEdgeTest test = new WorkEdgeTest();
        test.eachTermCostsOne();
        test.eachFormulaCostsOne();
        test.boundPartsCostForEachMember();
        test.bothAreAlwaysWorkedOut();
        test.allMembersAreWorkedOut();
        test.bodiesCostEachTime();
        test.eachCallMaySpend3000();
        test.eachRefutingMaySpend3000();
        test.opens32AtMost();
        test.eachPartIsOneMoreAtATime();
        test.opensAreClosedAgain();
        test.boundLettersAreEachMemberInTurn();
        test.bodiesHaveTheirOwnLetters();
        test.check.end("WorkEdgeTest");
    }

    private static AdjoinedSets withDear(int more) {
        AdjoinedSets x = new AdjoinedSets();
        x.let(2, (1L << 46) - 1);
        x.let(3, MOST);
        x.let(4, (1L << more) - 1);
        x.let(7, 62);
        return x;
    }

    private void defineSome(AdjoinedSets x) {
        check.define(x, 0, 1, "a", 0);
        check.define(x, 1, 2, "+ab", 0);
        check.define(x, 2, 3, "0", 0);
        check.define(x, 3, 1, "UIbaDb", 0);
    }

    /** A term costs so much: with others that bring it to 3000 in all it is worked out, with one more it is OUT. */
    private void termCosts(String term, int cost) {
        AdjoinedSets x = withDear(3000 - DEAR_COSTS - 1 - cost);
        defineSome(x);
        Check.type(x, term);
        long alone = x.eval();
        check.due(term + " alone is not OUT", alone >= 0, true);
        // The dear one is 3.
        check.eval(x, "|" + term + DEAR, alone | 3);
        x = withDear(3001 - DEAR_COSTS - 1 - cost);
        defineSome(x);
        check.eval(x, "|" + term + DEAR, OUT);
    }

    /** A formula costs so much. */
    private void formulaCosts(String formula, int cost) {
        AdjoinedSets x = withDear(3000 - DEAR_COSTS - 3 - cost);
        defineSome(x);
        check.truth(x, "v" + formula + "=3" + DEAR, 1);
        x = withDear(3001 - DEAR_COSTS - 3 - cost);
        defineSome(x);
        check.truth(x, "v" + formula + "=3" + DEAR, OUT);
    }

    /** "Each term .. (also one that is part of another one) costs 1 each time". */
    private void eachTermCostsOne() {
        termCosts("0", 1);
        termCosts("9", 1);
        termCosts("f", 1);
        termCosts("+00", 3);
        termCosts("|00", 3);
        termCosts("&00", 3);
        termCosts("-00", 3);
        termCosts("U0", 2);
        termCosts("P0", 2);
        termCosts("T0", 2);
        termCosts("P5", 2);
        termCosts("UPT7", 4);
        termCosts("{f0=00", 2);
        termCosts("If00", 2);
        termCosts("++00+00", 7);
        termCosts("-U|0g&T0P1", 10);
    }

    /** "Each .. formula (also one that is part of another one) costs 1 each time". */
    private void eachFormulaCostsOne() {
        formulaCosts("=00", 3);
        formulaCosts("<00", 3);
        formulaCosts("=U00", 4);
        formulaCosts("!=00", 4);
        formulaCosts("!!=00", 5);
        formulaCosts("^=00=00", 7);
        formulaCosts("v=00=00", 7);
        formulaCosts(">=00=00", 7);
        formulaCosts("Ef0=00", 2);
        formulaCosts("Lf0=00", 2);
    }

    /** "all its parts are worked out, the part in which x is bound once for each member". */
    private void boundPartsCostForEachMember() {
        termCosts("{f1=00", 5);
        termCosts("{f7=00", 11);
        termCosts("{f7=01", 11);
        termCosts("If1f", 3);
        termCosts("If7f", 5);
        termCosts("If70", 5);
        termCosts("If7U0", 8);
        termCosts("IfU9f", 5);
        termCosts("If7Ig3g", 14);
        termCosts("If7Igfg", 10);
        formulaCosts("Ef7=00", 11);
        formulaCosts("Lf7=00", 11);
        formulaCosts("Ef3Lg3=00", 18);
        formulaCosts("LfU9!=00", 11);
    }

    /** "(In &st, vFG and the like both are always worked out": also where one of them alone would tell. */
    private void bothAreAlwaysWorkedOut() {
        termCosts("&0T7", 4);
        termCosts("&T70", 4);
        termCosts("-0T7", 4);
        termCosts("|0T7", 4);
        termCosts("-fTf", 4);
        formulaCosts("^=01=00", 7);
        formulaCosts("^=00=01", 7);
        formulaCosts("^=01=01", 7);
        formulaCosts("v=00=01", 7);
        formulaCosts("v=01=00", 7);
        formulaCosts(">=01=00", 7);
        formulaCosts(">=01=01", 7);
        formulaCosts(">=00=01", 7);
        AdjoinedSets x = withDear(0);
        check.eval(x, "&0Ph", OUT);
        check.eval(x, "-0Ph", OUT);
        check.truth(x, "^=01=0Ph", OUT);
        check.truth(x, "v=00=0Ph", OUT);
        check.truth(x, ">=01=0Ph", OUT);
        check.truth(x, "^=0Ph=01", OUT);
        check.truth(x, "v=0Ph=00", OUT);
        check.truth(x, ">=0Ph=00", OUT);
    }

    /** ".. for E and L all members.)": also behind the one that tells. */
    private void allMembersAreWorkedOut() {
        formulaCosts("Ef7=f0", 11);
        formulaCosts("Ef7=f2", 11);
        formulaCosts("Ef7=f3", 11);
        formulaCosts("Lf7=f0", 11);
        formulaCosts("Lf7=f1", 11);
        formulaCosts("Lf7!=f0", 14);
        AdjoinedSets x = withDear(0);
        // For 1 it is P of 62, for 0 of the empty set.
        check.truth(x, "Ef3=1P{gh=f1", OUT);
        check.truth(x, "Lf3=0P{gh=f1", OUT);
        check.truth(x, "Ef3=1P{gh=f0", OUT);
        check.truth(x, "Ef3=1P{gh=f2", 1);
        check.truth(x, "Lf3=0P{gh=f2", 0);
    }

    /** "and the body of a function each time with what it is given as its letters". */
    private void bodiesCostEachTime() {
        termCosts("A0", 3);
        termCosts("AA0", 5);
        termCosts("A+00", 5);
        termCosts("B00", 6);
        termCosts("BA0A0", 10);
        termCosts("C000", 5);
        termCosts("C0U00", 6);
        // D costs 5 without what it does for members.
        termCosts("D0", 5);
        termCosts("D1", 10);
        termCosts("D2", 15);
        termCosts("D3", 20);
        termCosts("D8", 25);
        termCosts("If3Af", 8);
        formulaCosts("Ef3=Aff", 12);
        formulaCosts("=A0B00", 10);
    }

    /** "if more than 3000 would be spent by one call": what other calls spent does not count. */
    private void eachCallMaySpend3000() {
        AdjoinedSets x = withDear(3000 - DEAR_COSTS);
        for (int k = 0; k < 3; k++) {
            check.eval(x, DEAR, 3);
            check.eval(x, "U" + DEAR, OUT);
            check.truth(x, "=0" + DEAR, OUT);
        }
        x.let(4, (1L << (2998 - DEAR_COSTS)) - 1);
        for (int k = 0; k < 3; k++) {
            check.truth(x, "=0" + DEAR, 0);
            check.truth(x, "!=0" + DEAR, OUT);
            check.eval(x, DEAR, 3);
        }
    }

    /** "those with which it is OUT do not count; each may cost 3000", in refute. */
    private void eachRefutingMaySpend3000() {
        AdjoinedSets x = new AdjoinedSets();
        // PP3 has 16 members and PP2 has 4: A0 costs 2118, B0 838, C0 22.
        check.define(x, 0, 1, "IbPP3IcPP3IdPP20", 0);
        check.define(x, 1, 1, "IbPP3IcPP3Id10", 0);
        check.define(x, 2, 1, "IbPP30", 0);
        // It does not hold for 7 alone, with which all costs 3000; or 3001.
        check.refute(x, ">=f7=9|UUUUUU0|Igf0|A0|B0C0", 8, 64 * 7);
        check.refute(x, ">=f7=9|UUUUUUU0|Igf0|A0|B0C0", 8, NO);
        // It does not hold for 2, 3, 6 and 7, which cost less and less: the first that is not OUT counts.
        check.refute(x, "v!<1f=9|UUUU0|Ig-7f0|A0|B0C0", 8, 64 * 2);
        check.refute(x, "v!<1f=9|UUUUU0|Ig-7f0|A0|B0C0", 8, 64 * 3);
        check.refute(x, "v!<1f=9|UUUUUU0|Ig-7f0|A0|B0C0", 8, 64 * 7);
        check.refute(x, "v!<1f=9|UUUUUUU0|Ig-7f0|A0|B0C0", 8, NO);
    }

    /** "or more than 32 worked out at a time, each as a part of the one before (a body as a part of the term ..)". */
    private void opens32AtMost() {
        for (int height = 26; height <= 34; height++) {
            AdjoinedSets x = new AdjoinedSets();
            check.eval(x, tall(x, height), height <= 32 ? 0 : OUT);
            check.truth(x, "=0C0", height <= 31 ? 1 : OUT);
        }
        AdjoinedSets x = new AdjoinedSets();
        check.define(x, 0, 1, "UUUUUUUUUUUa", 0);
        check.define(x, 1, 1, "UUUUUUUUUUAa", 0);
        // 24 in B0, and 8 or 9 before it.
        check.eval(x, "UUUUUUUUB0", 0);
        check.eval(x, "UUUUUUUUUB0", OUT);
        opensFunctionsUpTo31();
    }

    /** A function's terms and its body are one more, so it may be the one before the last, and not the last. */
    private void opensFunctionsUpTo31() {
        AdjoinedSets x = new AdjoinedSets();
        check.define(x, 3, 3, "|a|bc", 0);
        check.define(x, 0, 1, "UUUUUUUUUUDaaa", 0);
        check.define(x, 1, 1, "UUUUUUUUUUAa", 0);
        // D is the 12th in A0 and the 23rd in B0; its body opens three.
        check.eval(x, "UUUUUUB0", 0);
        check.eval(x, "UUUUUUUB0", OUT);
        AdjoinedSets y = new AdjoinedSets();
        check.define(y, 3, 3, "c", 0);
        check.define(y, 0, 1, "UUUUUUUUUUDaaa", 0);
        check.define(y, 1, 1, "UUUUUUUUUUAa", 0);
        check.eval(y, "UUUUUUUUB0", 0);
        check.eval(y, "UUUUUUUUUB0", OUT);
    }

    /** A term, C0, for which so many (26 to 34) are worked out at a time; it is the empty set. */
    private String tall(AdjoinedSets x, int height) {
        check.define(x, 0, 1, "UUUUUUUUUUUa", 0);
        check.define(x, 1, 1, "UUUUUUUUUUAa", 0);
        check.define(x, 2, 1, "UUUUUUUUUU".substring(0, height - 25) + "Ba", 0);
        return "C0";
    }

    /** The same, for each kind of part: ? stands for it. */
    private void eachPartIsOneMoreAtATime() {
        String[] terms = {"U?", "P?", "T?", "+?0", "+0?", "|?0", "|0?", "&?0", "&0?", "-?0", "-0?", "{b?=00", "Ib?0", "Ib1?",
            "D?00", "D0?0", "D00?"};
        for (String term : terms) {
            partMayBeOf(31, false, term);
        }
        partMayBeOf(30, false, "{b1=0?");
        partMayBeOf(30, false, "{b1=?0");
        partMayBeOf(29, false, "{b1!=?0");
        String[] formulas = {"=?0", "=0?", "<?0", "<0?", "Eb?=00", "Lb?=00"};
        for (String formula : formulas) {
            partMayBeOf(31, true, formula);
        }
        String[] deeper = {"!=?0", "^=?0=00", "^=00=?0", "v=?0=00", "v=00=0?", ">=?0=00", ">=00<0?", "Eb1=?0", "Lb1=0?"};
        for (String formula : deeper) {
            partMayBeOf(30, true, formula);
        }
    }

    private void partMayBeOf(int height, boolean isFormula, String text) {
        for (int more = 0; more <= 1; more++) {
            AdjoinedSets x = new AdjoinedSets();
            String tall = tall(x, height + more);
            check.define(x, 3, 3, "0", 0);
            Check.type(x, text.replace("?", "0"));
            long want = isFormula ? x.truth() : x.eval();
            if (isFormula) {
                check.truth(x, text.replace("?", tall), more == 1 ? OUT : (int) want);
            } else {
                check.eval(x, text.replace("?", tall), more == 1 ? OUT : want);
            }
        }
    }

    /** "at a time": parts beside one another are not open together, and recursion goes as deep as ranks do. */
    private void opensAreClosedAgain() {
        AdjoinedSets x = new AdjoinedSets();
        String tall = tall(x, 31);
        check.eval(x, "+" + tall + tall, 1);
        check.truth(x, "=" + tall + tall, 1);
        check.eval(x, tall, 0);
        check.eval(x, "U" + tall, 0);
        check.eval(x, "UU" + tall, OUT);
        check.eval(x, "U" + tall, 0);
        AdjoinedSets y = new AdjoinedSets();
        // Each rank opens 5 (A, U, U, U and I), and the last I opens a: 31 for rank 5.
        check.define(y, 0, 1, "UUUIbaAb", 0);
        y.let(6, 1L << 16);
        y.let(7, 1L << 61);
        check.eval(y, "Ag", 0);
        check.eval(y, "Ah", 0);
        check.eval(y, "UAg", 0);
        check.eval(y, "UUAg", OUT);
        check.eval(y, "UUA8", 0);
    }

    /** "there it is each member of s in turn", and "not in s"; behind it the letter is what it was. */
    private void boundLettersAreEachMemberInTurn() {
        AdjoinedSets x = new AdjoinedSets();
        x.let(1, 9);
        check.eval(x, "Ibbb", 9);
        check.eval(x, "{bb=bb", 9);
        check.eval(x, "{bb=b3", 8);
        check.truth(x, "Ebb=b3", 1);
        check.truth(x, "Lbb=bb", 1);
        check.truth(x, "Lbb!=b9", 1);
        check.eval(x, "|Ib7bb", 15);
        check.eval(x, "|bIb7b", 15);
        check.truth(x, "^Eb7=b2=b9", 1);
        check.truth(x, "^Lb7=bb=b9", 1);
        check.eval(x, "|{b7=b2b", 13);
        check.eval(x, "Ib3|Ib4bb", 16 + 32);
        check.eval(x, "Ib3|{b4=bbb", 16 + 32);
        check.eval(x, "b", 9);
    }

    /** "the body of a function each time with what it is given as its letters": no other letter's value gets in or out. */
    private void bodiesHaveTheirOwnLetters() {
        AdjoinedSets x = new AdjoinedSets();
        x.let(0, 5);
        x.let(1, 6);
        check.define(x, 0, 2, "|Iaa0Ibb0", 0);
        check.define(x, 1, 2, "-ba", 0);
        check.define(x, 2, 3, "BAacb", 0);
        check.eval(x, "B1b", 6);
        check.eval(x, "Bba", 1);
        check.eval(x, "Bab", 2);
        check.eval(x, "BBabBba", 1);
        check.eval(x, "|A00a", 5);
        check.eval(x, "|Aabb", 7);
        check.eval(x, "C174", 6);
        check.eval(x, "Ia3|Aaba", 2);
        check.eval(x, "Ib7|Bba1", 32);
    }
}
