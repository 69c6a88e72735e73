/** The sentences under "Terms" on codes and values: each method stands for the sentence above it. */
public final class CodesEdgeTest {
    private static final long MOST = (1L << 62) - 1;
    private static final int OUT = AdjoinedSets.OUT;
    // A wrong program could take each of them for a code less than 62, by a wrapped shift or a cast.
    private static final long[] TOO_GREAT = {62, 63, 64, 65, 127, 128, 255, 256, 65536, (1L << 31) + 1, 1L << 32,
        (1L << 32) + 1, 1L << 61, MOST - 1, MOST};

    private final Check check = new Check();

    public static void main(String[] args) {
        CodesEdgeTest test = new CodesEdgeTest();
        test.equalSetsHaveOneCode();
        test.adjoiningGoesUpTo61();
        test.subsetsGoUpTo61();
        test.imagesGoUpTo61();
        test.greatestSetIsOneHere();
        test.outAnywhereIsOut();
        test.outIsNotWhatIsNotWorkedOut();
        test.greatSetsAreInNone();
        test.eachMemberIsFound();
        test.lettersAreEight();
        test.lettersAreEmptyAtFirst();
        test.check.end("CodesEdgeTest");
    }

    /** "equal sets have one code, the empty set 0". */
    private void equalSetsHaveOneCode() {
        AdjoinedSets x = new AdjoinedSets();
        check.eval(x, "++001", 3);
        check.eval(x, "++010", 3);
        check.eval(x, "+11", 3);
        check.eval(x, "+10", 1);
        check.truth(x, "=++001+11", 1);
        check.truth(x, "=+00+01", 0);
        check.eval(x, "-99", 0);
        check.eval(x, "&12", 0);
        check.eval(x, "Ib71", 2);
        check.truth(x, "=-99&12", 1);
    }

    /** "Sets here are those with codes less than 2^62 (their members' codes are 0 .. 61)": + with another member. */
    private void adjoiningGoesUpTo61() {
        AdjoinedSets x = new AdjoinedSets();
        for (int c = 0; c <= 61; c++) {
            x.let(0, c);
            check.eval(x, "+0a", 1L << c);
        }
        x.let(1, MOST);
        check.eval(x, "+ba", MOST);
        for (long code : TOO_GREAT) {
            AdjoinedSets y = new AdjoinedSets();
            y.let(0, code);
            y.let(1, MOST);
            check.eval(y, "+0a", OUT);
            check.eval(y, "+ba", OUT);
            check.eval(y, "+a0", code | 1);
            check.eval(y, "+aa", OUT);
        }
    }

    /** The same: P, which has its set itself as a member. */
    private void subsetsGoUpTo61() {
        AdjoinedSets x = new AdjoinedSets();
        for (int c = 0; c <= 61; c++) {
            long subsets = 0;
            for (int d = 0; d <= c; d++) {
                subsets |= (d & c) == d ? 1L << d : 0;
            }
            x.let(0, c);
            check.eval(x, "Pa", subsets);
        }
        for (long code : TOO_GREAT) {
            AdjoinedSets y = new AdjoinedSets();
            y.let(0, code);
            check.eval(y, "Pa", OUT);
        }
        check.eval(new AdjoinedSets(), "PP3", 65535);
        check.eval(new AdjoinedSets(), "PPP3", OUT);
    }

    /** The same: I, for which one member that is too great is enough. */
    private void imagesGoUpTo61() {
        AdjoinedSets x = new AdjoinedSets();
        for (int c = 0; c <= 61; c++) {
            x.let(0, c);
            check.eval(x, "Ib1a", 1L << c);
        }
        for (long code : TOO_GREAT) {
            AdjoinedSets y = new AdjoinedSets();
            y.let(0, code);
            check.eval(y, "Ib1a", OUT);
        }
        // +bb is 37 for 5, and 70 for 6.
        x.let(0, 1L << 5);
        check.eval(x, "Iba+bb", 1L << 37);
        x.let(0, 1L << 6);
        check.eval(x, "Iba+bb", OUT);
        x.let(0, 3 + (1L << 6));
        check.eval(x, "Iba+bb", OUT);
        check.eval(x, "Ib3-P5b", 3L * (1L << 50));
        // Just the first, the second or the last one is too great: the others are 0.
        x.let(0, 62);
        check.eval(x, "Ib7{ca=b0", OUT);
        check.eval(x, "Ib7{ca=b1", OUT);
        check.eval(x, "Ib7{ca=b2", OUT);
        check.eval(x, "Ib7{ca=b3", 1);
    }

    /** "codes less than 2^62": 2^62 - 1 itself is one, and goes through every operation. */
    private void greatestSetIsOneHere() {
        AdjoinedSets x = new AdjoinedSets();
        x.let(7, MOST);
        x.let(0, 61);
        check.eval(x, "h", MOST);
        check.eval(x, "+ha", MOST);
        check.eval(x, "|hh", MOST);
        check.eval(x, "|0h", MOST);
        check.eval(x, "&hh", MOST);
        check.eval(x, "&h1", 1);
        check.eval(x, "-h0", MOST);
        check.eval(x, "-hh", 0);
        check.eval(x, "-h+0a", MOST >> 1);
        check.eval(x, "Uh", 63);
        check.eval(x, "Th", MOST);
        check.eval(x, "{bh=bb", MOST);
        check.eval(x, "{bh=ba", 1L << 61);
        check.eval(x, "Ibhb", MOST);
        check.truth(x, "=hh", 1);
        check.truth(x, "Ebh=ba", 1);
        check.truth(x, "Lbh=bb", 1);
        check.truth(x, "Lbh!=ba", 0);
    }

    /** "where another one would come, it is OUT": the whole is, whatever the rest of it is. */
    private void outAnywhereIsOut() {
        AdjoinedSets x = new AdjoinedSets();
        x.let(7, 62);
        String[] terms = {"+0Ph", "+Ph0", "|0Ph", "|Ph0", "&0Ph", "&Ph0", "-0Ph", "-Ph0", "-PhPh", "UPh", "PPh", "TPh",
            "{bPh=00", "{b1=Ph0", "{b1=0Ph", "IbPh0", "Ib1Ph", "APh", "B0h", "BPh0", "U&0Ph", "{b3=+0-hb0"};
        for (String term : terms) {
            AdjoinedSets y = new AdjoinedSets();
            y.let(7, 62);
            check.define(y, 0, 1, "0", 0);
            check.define(y, 1, 2, "Pb", 0);
            check.eval(y, term, OUT);
            check.truth(y, "=0" + term, OUT);
        }
        String[] formulas = {"<0Ph", "<Ph0", "=Ph0", "=PhPh", "!=Ph0", "^=01=Ph0", "^=Ph0=01", "v=00=Ph0", "v=Ph0=00",
            ">=01=Ph0", ">=Ph0=00", "EbPh=00", "Eb1=Ph0", "LbPh=00", "Lb1=Ph0", "Eb3v=b0=+0-hb0", "Lb3^=b1=+0-hb0"};
        for (String formula : formulas) {
            check.truth(x, formula, OUT);
        }
    }

    /** "the part in which x is bound once for each member": for none, nothing in it comes. */
    private void outIsNotWhatIsNotWorkedOut() {
        AdjoinedSets x = new AdjoinedSets();
        x.let(7, 62);
        check.eval(x, "Ib0Ph", 0);
        check.eval(x, "{b0=0Ph", 0);
        check.truth(x, "Eb0=0Ph", 0);
        check.truth(x, "Lb0=0Ph", 1);
        check.eval(x, "h", 62);
    }

    /** "<st: s is in t": a set whose code is 62 or more is in no set here. */
    private void greatSetsAreInNone() {
        for (int c = 0; c <= 61; c++) {
            AdjoinedSets x = new AdjoinedSets();
            x.let(7, MOST);
            x.let(0, c);
            x.let(1, 1L << c);
            check.truth(x, "<ah", 1);
            check.truth(x, "^<ab!<a-hb", 1);
        }
        for (long code : TOO_GREAT) {
            AdjoinedSets y = new AdjoinedSets();
            y.let(7, MOST);
            y.let(0, code);
            check.truth(y, "<ah", 0);
        }
    }

    /** "their members' codes are 0 .. 61": each of them is found where it is the only member, or the only one that is none. */
    private void eachMemberIsFound() {
        for (int c = 0; c <= 61; c++) {
            AdjoinedSets x = new AdjoinedSets();
            x.let(0, 1L << c);
            x.let(1, c);
            x.let(2, MOST - (1L << c));
            check.eval(x, "Iddd", 0);
            check.eval(x, "Idad", 1L << c);
            check.eval(x, "Idcd", MOST - (1L << c));
            check.eval(x, "{da=db", 1L << c);
            check.eval(x, "{dc=db", 0);
            check.truth(x, "Eda=db", 1);
            check.truth(x, "Edc=db", 0);
            check.truth(x, "Lda=db", 1);
            check.truth(x, "Lda!=db", 0);
            check.truth(x, "Ldc!=db", 1);
            check.eval(x, "Ua", c);
            check.truth(x, "=Taa", c == 0 ? 1 : 0);
            check.truth(x, "=Ta|aTb", 1);
            check.eval(x, "+cb", MOST);
            check.eval(x, "|ca", MOST);
            check.eval(x, "&ca", 0);
            check.eval(x, "-ac", 1L << c);
        }
    }

    /** "THE LETTERS a .. h have VALUES". */
    private void lettersAreEight() {
        AdjoinedSets x = new AdjoinedSets();
        for (int letter = 0; letter < 8; letter++) {
            x.let(letter, 3 + letter);
        }
        for (int letter = 0; letter < 8; letter++) {
            check.eval(x, "" + (char) ('a' + letter), 3 + letter);
        }
        check.eval(x, "i", -100);
        check.eval(x, "`", -100);
    }

    /** "sets (0 at first)". */
    private void lettersAreEmptyAtFirst() {
        AdjoinedSets x = new AdjoinedSets();
        x.let(0, 9);
        check.eval(x, "a", 9);
        check.eval(x, "||b|cd||ef|gh", 0);
        for (char letter = 'a'; letter <= 'h'; letter++) {
            check.truth(new AdjoinedSets(), "=0" + letter, 1);
        }
    }
}
