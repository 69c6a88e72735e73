/** The sentences under "Terms" on F WITH t FOR x, in each of the rules that use it: a method for each clause. */
public final class ReplacementEdgeTest {
    private static final int NO = AdjoinedSets.NO;

    private final Check check = new Check();

    public static void main(String[] args) {
        ReplacementEdgeTest test = new ReplacementEdgeTest();
        test.eachFreeLetterIsReplaced();
        test.boundLettersStay();
        test.termStaysAsItIs();
        test.noneWhereAFreeLetterWouldBeBound();
        test.boundLettersOfTheTermDoNotMatter();
        test.oneThatWouldBeBoundIsEnough();
        test.severalAreReplacedAtOnce();
        test.severalAreBoundEachByItself();
        test.check.end("ReplacementEdgeTest");
    }

    /** Whether F with t for c may be G, by each of the rules 8, 10, 14 and 15. */
    private void comes(String f, String t, String g, boolean isRight) {
        check.prove(new AdjoinedSets(), ">LchF><thG".replace("F", f).replace("t", t).replace("G", g), 8, 0, 0, isRight ? 0 : NO);
        check.prove(new AdjoinedSets(), "><t{chF^<thG".replace("F", f).replace("t", t).replace("G", g), 14, 0, 0, isRight ? 0 : NO);
        check.prove(new AdjoinedSets(), ">^<thG<t{chF".replace("F", f).replace("t", t).replace("G", g), 15, 0, 0, isRight ? 0 : NO);
    }

    /** The same by rule 10, for which the term is any. */
    private void comesForSome(String f, String g, boolean isRight) {
        AdjoinedSets x = new AdjoinedSets();
        check.prove(x, "v" + f + "!" + f, 0, 0, 0, 0);
        check.prove(x, "v" + g + "!" + g, 10, 0, 2, isRight ? 1 : NO);
    }

    /** "each free x in F is replaced by t": all of them, wherever they stand. */
    private void eachFreeLetterIsReplaced() {
        String[] formulas = {"=cc", "<ac", "<ca", "!=c0", "^=c0=0c", "v<cc<cc", ">=c0=c1", "Edc=dc", "Ldc=cd", "=+cc0",
            "=|ac0", "=&ca0", "=-cc0", "=Uc0", "=Pc0", "=0Tc", "={dc=dcc", "=Idc|dc0", "=ab"};
        String[] terms = {"a", "h", "0", "9", "+ab", "Ua", "{e0=ee", "Ie0e"};
        for (String f : formulas) {
            for (String t : terms) {
                comes(f, t, f.replace("c", t), true);
                comesForSome(f, f.replace("c", t), true);
            }
            for (int k = 0; k < f.length(); k++) {
                if (f.charAt(k) == 'c') {
                    String one = f.substring(0, k) + "a" + f.substring(k + 1);
                    boolean isAll = f.indexOf('c') == k && f.lastIndexOf('c') == k;
                    comes(f, "a", one, isAll);
                    comesForSome(f, one, isAll);
                }
            }
        }
        comes("=cc", "a", "=ab", false);
        comesForSome("=cc", "=ab", false);
        comesForSome("=cc", "=+aba", false);
        comes("=ca", "b", "=bb", false);
        comes("=cc", "+ab", "=+ab+ba", false);
        comes("=ab", "c", "=ac", false);
    }

    /** "Letters that are not bound are FREE": x that is bound in F is not replaced, but in the term over which it is bound. */
    private void boundLettersStay() {
        comes("Ec0=cc", "a", "Ec0=cc", true);
        comes("Ec0=cc", "a", "Ea0=aa", false);
        comes("Ec0=cc", "a", "Ec0=aa", false);
        comes("Ecc=cc", "a", "Eca=cc", true);
        comes("Ecc=cc", "a", "Ecc=cc", false);
        comes("Lcc=cc", "a", "Lca=cc", true);
        comes("={cc=ccc", "a", "={ca=cca", true);
        comes("={cc=ccc", "a", "={ca=ccc", false);
        comes("=Icccc", "a", "=Icaca", true);
        comes("=Icccc", "a", "=Icacc", false);
        comes("^Ec0=cc=cc", "a", "^Ec0=cc=aa", true);
        comes("^Ec0=cc=cc", "a", "^Ec0=cc=cc", false);
        comes("^=ccLc0=cc", "a", "^=aaLc0=cc", true);
        comes("Ed0Ec0=cc", "a", "Ed0Ec0=cc", true);
        // Bound twice, it is bound still.
        comes("Ec0Ec0=cc", "a", "Ec0Ec0=cc", true);
        comes("Ec0Ec0=cc", "a", "Ec0Ec0=aa", false);
        comes("Ec0^Lc0=cc=cc", "a", "Ec0^Lc0=cc=cc", true);
        comes("Ec0^Lc0=cc=cc", "a", "Ec0^Lc0=cc=aa", false);
        comes("Ec0={cc=cc0", "a", "Ec0={cc=cc0", true);
        comes("Ec0={cc=cc0", "a", "Ec0={ca=cc0", false);
        comesForSome("Ec0Ec0=cc", "Ec0Ec0=aa", false);
        comesForSome("Ecc=cc", "EcPa=cc", true);
        comesForSome("Ec0=cc", "Ec0=cc", true);
        comesForSome("Ec0=cc", "Ec0=aa", false);
    }

    /** "replaced by t": once; what comes with t is not replaced again, and stays as it is. */
    private void termStaysAsItIs() {
        comes("=c0", "+cc", "=+cc0", true);
        comes("=c0", "+cc", "=++cc+cc0", false);
        comes("=cc", "Uc", "=UcUc", true);
        comes("=cc", "Uc", "=UcUUc", false);
        comes("=cc", "c", "=cc", true);
        comes("=c0", "{cc=cc", "={cc=cc0", true);
        comes("=c0", "{cc=cc", "={cc=c00", false);
        comesForSome("=cc", "=+cc+cc", true);
        comesForSome("=cc", "=cc", true);
    }

    /** "there is none such if one of them stands where a free letter of t is bound": by each of {, I, E and L. */
    private void noneWhereAFreeLetterWouldBeBound() {
        String[] formulas = {"Ed0=cd", "Ld0=dc", "={d0=cc0", "=Id0c0", "Ea0Ed0=cd", "Ed0Ea0=cd", "!^=00Ed0<0c", "Ld0Eac=aa",
            "Ed0Ed0=cd", "Ed0^Ld0=00=0c"};
        String[] captured = {"d", "+dd", "+bd", "Ud", "{ad=aa", "{a0=ad", "Ia0d", "|{d0=ddd"};
        String[] notCaptured = {"b", "e", "0", "+ef", "{d0=dd", "Id0d", "{db=dd", "{ae=aa"};
        for (String f : formulas) {
            for (String t : captured) {
                comes(f, t, f.replace("c", t), false);
                comesForSome(f, f.replace("c", t), false);
            }
            for (String t : notCaptured) {
                comes(f, t, f.replace("c", t), true);
                comesForSome(f, f.replace("c", t), true);
            }
        }
    }

    /** The same: letters that are bound elsewhere, or that t has bound alone, do not matter. */
    private void boundLettersOfTheTermDoNotMatter() {
        // In the term over which d is bound it is not bound.
        comes("Edc=dd", "d", "Edd=dd", true);
        comes("Ldc=dd", "+dd", "Ld+dd=dd", true);
        comes("={dc=dd0", "d", "={dd=dd0", true);
        comes("=Idcd0", "d", "=Iddd0", true);
        // d is bound in another part.
        comes("^Ed0=dd=cc", "d", "^Ed0=dd=dd", true);
        comes("^=ccEd0=dd", "d", "^=ddEd0=dd", true);
        // c is bound there, so none is replaced.
        comes("Ec0Ed0=cd", "d", "Ec0Ed0=cd", true);
        comes("Ed0Ec0=cd", "d", "Ed0Ec0=cd", true);
        // c itself is free in t: it stands where c is not bound.
        comes("Ed0=cd", "Uc", "Ed0=Ucd", true);
    }

    /** ".. if one of them stands": others may stand where nothing is bound. */
    private void oneThatWouldBeBoundIsEnough() {
        comes("^=ccEd0=cd", "d", "^=ddEd0=dd", false);
        comes("^Ed0=cd=cc", "d", "^Ed0=dd=dd", false);
        comes("Edc=cd", "d", "Edd=dd", false);
        comes("^Ed0=cd=cc", "b", "^Ed0=bd=bb", true);
        // Nor is one that would be bound just left as it is.
        comes("^=ccEd0=cd", "d", "^=ddEd0=cd", false);
        comesForSome("^=ccEd0=cd", "^=ddEd0=dd", false);
        comesForSome("Edc=cd", "Edd=dd", false);
        comesForSome("Edc=cd", "Ede=ed", true);
    }

    /** "(Of several letters, all are replaced at once.)": a function's letters, by rule 13. */
    private void severalAreReplacedAtOnce() {
        AdjoinedSets x = new AdjoinedSets();
        check.define(x, 0, 2, "+ab", 0);
        check.define(x, 1, 3, "|a|bc", 0);
        check.prove(x, "=Aba+ba", 13, 0, 0, 0);
        check.prove(x, "=Aba+aa", 13, 0, 0, NO);
        check.prove(x, "=Aba+bb", 13, 0, 0, NO);
        check.prove(x, "=Aba+ab", 13, 0, 0, NO);
        check.prove(x, "=AUbUa+UbUa", 13, 0, 0, 1);
        check.prove(x, "=AUbUa+UUaUa", 13, 0, 0, NO);
        check.prove(x, "=Bbca|b|ca", 13, 0, 0, 2);
        check.prove(x, "=Bcab|c|ab", 13, 0, 0, 3);
        check.prove(x, "=Bbca|a|aa", 13, 0, 0, NO);
        check.prove(x, "=Bbca|b|cb", 13, 0, 0, NO);
        check.prove(x, "=Baaa|a|aa", 13, 0, 0, 4);
        check.prove(x, "=B012|0|12", 13, 0, 0, 5);
        check.prove(x, "=B012|0|11", 13, 0, 0, NO);
        check.prove(x, "=B012|0|02", 13, 0, 0, NO);
        check.prove(x, "=B012|1|02", 13, 0, 0, NO);
    }

    /** The same, where one of several would be bound. */
    private void severalAreBoundEachByItself() {
        AdjoinedSets x = new AdjoinedSets();
        check.define(x, 0, 2, "{ca<cb", 0);
        check.define(x, 1, 2, "{ab=aa", 0);
        check.define(x, 2, 1, "0", 0);
        check.prove(x, "=Ade{cd<ce", 13, 0, 0, 0);
        check.prove(x, "=Acd{cc<cd", 13, 0, 0, 1);
        check.prove(x, "=Adc{cd<cc", 13, 0, 0, NO);
        check.prove(x, "=AdUc{cd<cUc", 13, 0, 0, NO);
        check.prove(x, "=Ad{c0=cc{cd<c{c0=cc", 13, 0, 0, 2);
        // a is bound in the body of B: what is given for it does not come.
        check.prove(x, "=B9d{ad=aa", 13, 0, 0, 3);
        check.prove(x, "=B9d{9d=99", 13, 0, 0, -105);
        check.prove(x, "=B9d{ad=99", 13, 0, 0, NO);
        check.prove(x, "=Bba{aa=aa", 13, 0, 0, 4);
        check.prove(x, "=Ca0", 13, 0, 0, 5);
        check.prove(x, "=Ca1", 13, 0, 0, NO);
    }
}
