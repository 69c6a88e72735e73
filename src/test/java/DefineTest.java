/** Promise 7: define, with what the document says of functions. */
public final class DefineTest {
    private static final int BAD = AdjoinedSets.BAD;

    public static void main(String[] args) {
        Check check = new Check();
        givesLetters(check);
        endsRecursion(check);
        refusesWrongInputs(check);
        check.end("DefineTest");
    }

    private static void givesLetters(Check check) {
        AdjoinedSets x = new AdjoinedSets();
        x.let(0, 9);
        x.let(1, 8);
        check.define(x, 0, 1, "+aa", 0);
        check.define(x, 1, 2, "-ab", 0);
        check.define(x, 2, 3, "|a&bc", 0);
        check.define(x, 3, 2, "BAbIcac", 0);
        check.eval(x, "A2", 6);
        check.eval(x, "B75", 2);
        check.eval(x, "B57", 0);
        check.eval(x, "C164", 5);
        check.eval(x, "AAA0", 11);
        check.eval(x, "D34", 20);
        check.eval(x, "|A0a", 9);
        check.eval(x, "BABaab", 1);
        check.eval(x, "Ib3Bba", 1);
        check.eval(x, "A", -101);
        check.eval(x, "B0", -102);
        check.eval(x, "C00", -103);
        check.eval(x, "A00", -102);
        x.let(0, 62);
        check.eval(x, "Aa", AdjoinedSets.OUT);
        check.eval(x, "C0a0", 0);
        check.eval(x, "B0Aa", AdjoinedSets.OUT);
        check.define(new AdjoinedSets(), 0, 2, "a", 0);
    }

    private static void endsRecursion(Check check) {
        AdjoinedSets x = new AdjoinedSets();
        check.define(x, 0, 1, "UIba+AbAb", 0);
        check.eval(x, "A0", 0);
        check.eval(x, "A1", 1);
        check.eval(x, "A5", 11);
        check.eval(x, "A9", 11);
        check.eval(x, "A4", 11);
        x.let(3, 16);
        check.eval(x, "Ad", AdjoinedSets.OUT);
        check.define(x, 1, 2, "|bUIcaBcb", 0);
        check.eval(x, "B94", 4);
        check.define(x, 2, 3, "|Icac{baEda=CbCdab0b", 0);
        check.define(x, 3, 1, "IaaDa", 0);
        check.eval(x, "D9", 9);
        String[] more = {"{ba=Ab0", "{c0Eba=Ab0", "{c0Lba=Ab0", "IbaIcbAb", "IaaIb0Aa", "IbaIa0Ab", "IbaAb", "IbaUPAb"};
        for (String body : more) {
            check.define(new AdjoinedSets(), 0, 1, body, 0);
        }
        String[] two = {"IcaAcb", "IcaAcAcb", "IcaAcc", "IcaAcIdaAda", "IcbIdaAdc"};
        for (String body : two) {
            check.define(new AdjoinedSets(), 0, 2, body, 0);
        }
    }

    private static void refusesWrongInputs(Check check) {
        AdjoinedSets x = new AdjoinedSets();
        check.define(x, -1, 1, "a", BAD);
        check.define(x, 4, 1, "a", BAD);
        check.define(x, Integer.MAX_VALUE, 1, "a", BAD);
        check.define(x, Integer.MIN_VALUE, 1, "a", BAD);
        check.define(x, 0, 0, "a", BAD);
        check.define(x, 0, 4, "a", BAD);
        check.define(x, 0, -1, "a", BAD);
        check.define(x, 4, 1, "z", BAD);
        check.define(x, 3, 1, "a", 0);
        check.define(x, 3, 1, "a", BAD);
        check.define(x, 3, 2, "z", BAD);
        check.eval(x, "D7", 7);
    }
}
