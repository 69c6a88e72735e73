/** What each of the rules 0 to 17 asks, besides its form too: a method for each clause. RulesTest has ordinary proofs. */
public final class RulesEdgeTest {
    private static final int BAD = AdjoinedSets.BAD;
    private static final int NO = AdjoinedSets.NO;
    // For each rule that asks for a form (but 4), one formula in which each letter stands twice at least.
    private static final int[] RULES = {1, 2, 3, 5, 6, 7, 8, 14, 15, 16, 17};
    private static final String[] FORMS = {"=aa", ">=ab><ac<bc", ">=ab><ca<cb", "><c+abv<ca=cb", ">v<ca=cb<c+ab",
        ">^Lca<cbLcb<ca=ab", ">Lcb=cd><ab=ad", "><a{cb=cd^<ab=ad", ">^<ab=ad<a{cb=cd", ">Eab=ac!Lab!=ac",
        ">!Lab!=acEab=ac"};

    // For each rule 0 to 17, a formula that it allows with the theorems of nothingIsLeftOver, and one that it does not.
    private static final String[] RIGHT = {"v<ab!<ab", "=cc", ">=cd><ce<de", ">=cd><ec<ed", "!<c0", "><e+cdv<ec=ed",
        ">v<ec=ed<e+cd", ">^Lec<edLed<ec=cd", ">Lcd=ce><fd=fe", "v=ab><fg<fg", "><0g<0g", "Lfg<fg", "v<ab!<ab", "=Adh{ch=cd",
        "><f{dc=de^<fc=fe", ">^<fc=fe<f{dc=de", ">Ebd=bc!Lbd!=bc", ">!Lbd!=bcEbd=bc"};
    private static final String[] NOT_RIGHT = {"v<ab!<ba", "=cd", ">=cd><ce<dc", ">=cd><ec<dd", "!<cc", "><e+cdv<ed=ec",
        ">v<ec=ed<e+dc", ">^Lcc<cdLcd<cc=cd", ">Lcd=ce><fd=fc", "v=ab><fg<ff", "><0g<1g", "Lfg<gf", "v<bb!<bb", "=Ach{ch=cc",
        "><f{dc=de^<fc=de", ">^<fc=de<f{dc=de", ">Ebd=bc!Lbd=bc", ">!Lbd!=bcEbd=bb"};
    private static final int[] NAMED_I = {0, 0, 0, 0, 0, 0, 0, 0, 0, 2, 2, 2, 0, 0, 0, 0, 0, 0};
    private static final int[] NAMED_J = {0, 0, 0, 0, 0, 0, 0, 0, 0, 3, 5, 0, 1, 0, 0, 0, 0, 0};

    private final Check check = new Check();

    public static void main(String[] args) {
        RulesEdgeTest test = new RulesEdgeTest();
        test.allValuesOfPartsCount();
        test.partsAreSixAtMost();
        test.samePartsAreSameLetterByLetter();
        test.partsAreReachedThroughConnectives();
        test.formsAreExact();
        test.termsAndFormulasAreAny();
        test.nothingIsInTheEmptySet();
        test.letterIsNotFreeInBothSets();
        test.detachedIsWhatStandsBehind();
        test.instanceOfTheLetterNamed();
        test.allMembersWhereLetterIsNotFree();
        test.inductionNamesAnyLetter();
        test.inductionWantsAnotherLetterNotFree();
        test.inductionWantsBothTheorems();
        test.unfoldingWantsTheBody();
        test.unusedNumbersAreAny();
        test.nothingIsLeftOver();
        test.check.end("RulesEdgeTest");
    }

    private void allows(int rule, String formula) {
        check.prove(new AdjoinedSets(), formula, rule, -1, -1, 0);
    }

    private void refuses(int rule, String formula) {
        AdjoinedSets x = new AdjoinedSets();
        check.prove(x, formula, rule, -1, -1, NO);
        check.due("theorems after " + formula, x.theorems(), 0);
    }

    /** 0: "it holds for all truth values of its PARTS": one for which it does not hold is enough, whichever it is. */
    private void allValuesOfPartsCount() {
        for (int values = 0; values < 64; values++) {
            refuses(0, allBut(values, 6));
        }
        for (int count = 1; count <= 6; count++) {
            refuses(0, allBut(0, count));
            refuses(0, allBut((1 << count) - 1, count));
            allows(0, "v" + allBut(0, count) + "!=0" + count);
        }
        String[] always = {"v=ab!=ab", ">=ab=ab", "!^=ab!=ab", ">^=ab<ab=ab", ">=abv<ab=ab", ">!!=ab=ab", "vv=ab<ab!=ab"};
        for (String formula : always) {
            allows(0, formula);
            refuses(0, "!" + formula);
        }
        String[] notAlways = {"=aa", "!=ab", "^=ab=ab", "v=ab=ab", ">=ab<ab", ">=ab!=ab", ">!=ab=ab", "^=ab!=ab", ">v=ab<ab=ab",
            ">=ab^=ab<ab"};
        for (String formula : notAlways) {
            refuses(0, formula);
        }
    }

    /** A formula with so many parts that holds for all their values but these. */
    private static String allBut(int values, int count) {
        StringBuilder text = new StringBuilder();
        for (int k = 1; k <= count; k++) {
            text.append(k < count ? "v" : "").append((values >> (k - 1) & 1) != 0 ? "!" : "").append("=0").append(k);
        }
        return text.toString();
    }

    /** 0: ".. of which there are at most 6 different ones". */
    private void partsAreSixAtMost() {
        allows(0, "v=01v=02v=03v=04v=05v=06!=01");
        allows(0, "v=01v=02v=03v=04v=05v=06!=06");
        refuses(0, "v=01v=02v=03v=04v=05v=06v=07!=01");
        refuses(0, "v=01v=02v=03v=04v=05v=06v=07!=07");
        refuses(0, "v=01v=02v=03v=04v=05v=06v!=01=07");
        refuses(0, ">v=01v=02v=03v=04v=05v=06=07v=01v=02v=03v=04v=05v=06=07");
        // They stand often, but different ones are six.
        allows(0, ">v=01v=02v=03v=04v=05=06v=01v=02v=03v=04v=05=06");
        allows(0, "v!=01v=01v=01v=01v=01v=01v=01v=01v=01v=01=01");
    }

    /** 0: "those that are the same letter by letter have one value". */
    private void samePartsAreSameLetterByLetter() {
        refuses(0, "v=ab!=ba");
        refuses(0, "v=ab!<ab");
        refuses(0, "v=11!=+00+00");
        refuses(0, "v=a+ab!=a+ac");
        refuses(0, "v=a+ba!=a+ca");
        refuses(0, "vEab=aa!Ecb=cc");
        refuses(0, "vEab=aa!Lab=aa");
        allows(0, "vEab=aa!Eab=aa");
        allows(0, "vLab>=aa<ab!Lab>=aa<ab");
        allows(0, "v={ab=aaUc!={ab=aaUc");
        refuses(0, "v={ab=aaUc!={ab=aaUd");
    }

    /** 0: "reached from it through !, ^, v, > alone, and are none of these themselves". */
    private void partsAreReachedThroughConnectives() {
        refuses(0, "Lab>=ab=ab");
        refuses(0, "Eabv=ab!=ab");
        refuses(0, "=+00+00");
        refuses(0, "vEab=aa!=aa");
        refuses(0, "v={ab=aa0!=aa");
        // What stands in Lab.. and in {ab.. is no part: these have 2, not 8.
        allows(0, "vLabv=a1v=a2v=a3v=a4v=a5v=a6=a7v=01!=01");
        allows(0, "v={abv=a1v=a2v=a3v=a4v=a5v=a6=a70v=01!=01");
        allows(0, ">!!!!!!!!!=ab!=ab");
        allows(0, ">=ab!!!!!!!!=ab");
        refuses(0, ">=ab!!!!!!!=ab");
    }

    /** Each form: with another letter, digit or operator at any one place, or with a part more, it is another one. */
    private void formsAreExact() {
        for (int k = 0; k < RULES.length; k++) {
            allows(RULES[k], FORMS[k]);
            for (int place = 0; place < FORMS[k].length(); place++) {
                String before = FORMS[k].substring(0, place);
                String behind = FORMS[k].substring(place + 1);
                for (char c : "gh09+|&-UPT{I<=!^v>EL".toCharArray()) {
                    isNotAllowed(RULES[k], before + c + behind, c == FORMS[k].charAt(place));
                }
                isNotAllowed(RULES[k], before + "!" + FORMS[k].substring(place), false);
                isNotAllowed(RULES[k], before + "U" + FORMS[k].substring(place), false);
            }
            for (int other = 1; other <= 17; other++) {
                boolean isNamed = other >= 9 && other <= 12;
                check.prove(new AdjoinedSets(), FORMS[k], other, 0, 0, other == RULES[k] ? 0 : isNamed ? BAD : NO);
            }
        }
    }

    /** Either it is wrong as a formula, or the rule does not allow it. */
    private void isNotAllowed(int rule, String formula, boolean isTheFormItself) {
        if (!isTheFormItself) {
            AdjoinedSets x = new AdjoinedSets();
            Check.type(x, formula);
            int isWrong = x.truth();
            check.prove(x, formula, rule, 0, 0, isWrong <= -100 ? isWrong : NO);
        }
    }

    /** "s, t, u are any terms, F, G formulas, x, y letters". */
    private void termsAndFormulasAreAny() {
        String[] terms = {"a", "h", "0", "9", "+ab", "|a0", "&aa", "-ab", "Ua", "P0", "Ta", "{da=dd", "Idad", "UPTa"};
        for (String s : terms) {
            allows(1, "=" + s + s);
            allows(2, ">=" + s + "b><" + s + "c<bc");
            allows(2, ">=b" + s + "><bc<" + s + "c");
            allows(2, ">=bc><b" + s + "<c" + s);
            allows(3, ">=" + s + "b><c" + s + "<cb");
            allows(3, ">=b" + s + "><cb<c" + s);
            allows(3, ">=bc><" + s + "b<" + s + "c");
            allows(5, "><" + s + "+bcv<" + s + "b=" + s + "c");
            allows(5, "><b+" + s + "cv<b" + s + "=bc");
            allows(5, "><b+c" + s + "v<bc=b" + s);
            allows(6, ">v<" + s + "b=" + s + "c<" + s + "+bc");
            allows(6, ">v<b" + s + "=bc<b+" + s + "c");
            allows(6, ">v<bc=b" + s + "<b+c" + s);
            allows(7, ">^Lc" + s + "<cbLcb<c" + s + "=" + s + "b");
            allows(7, ">^Lcb<c" + s + "Lc" + s + "<cb=b" + s);
            allows(8, ">Lc" + s + "<cb><d" + s + "<db");
            allows(8, ">Lcb<cb><" + s + "b<" + s + "b");
            allows(14, "><" + s + "{cb<cb^<" + s + "b<" + s + "b");
            allows(15, ">^<d" + s + "<db<d{c" + s + "<cb");
            allows(16, ">Eb" + s + "=bb!Lb" + s + "!=bb");
            allows(17, ">!Lb" + s + "!=bbEb" + s + "=bb");
        }
        for (char x = 'a'; x <= 'h'; x++) {
            char s = x == 'a' ? 'b' : 'a';
            char t = x == 'c' ? 'd' : 'c';
            allows(7, (">^Lxs<xtLxt<xs=st").replace('t', t).replace('s', s).replace('x', x));
            allows(8, (">Lx0=x1><t0=t1").replace('t', t).replace('x', x));
            allows(14, ("><t{x0=x1^<t0=t1").replace('t', t).replace('x', x));
            allows(16, (">Exs=x1!Lxs!=x1").replace('s', s).replace('x', x));
        }
        String[] formulas = {"<bc", "!=bc", "^=bc<bc", "v=bc<bc", ">=bc<bc", "Edc=db", "Ldc=db"};
        for (String f : formulas) {
            String g = f.replace('b', 'e');
            allows(8, ">Lba" + f + "><ea" + g);
            allows(14, "><e{ba" + f + "^<ea" + g);
            allows(15, ">^<ea" + g + "<e{ba" + f);
            allows(16, ">Eba" + f + "!Lba!" + f);
            allows(17, ">!Lba!" + f + "Eba" + f);
        }
    }

    /** 4: "!<t0". */
    private void nothingIsInTheEmptySet() {
        String[] terms = {"a", "h", "0", "7", "+ab", "Ua", "{ab=aa", "Iaba", "+00"};
        for (String t : terms) {
            allows(4, "!<" + t + "0");
            refuses(4, "!=" + t + "0");
            refuses(4, "!<" + t + "1");
            refuses(4, "!<" + t + "a");
            refuses(4, "!!<" + t + "0");
            refuses(4, "<" + t + "0");
        }
        refuses(4, "!<0-aa");
        refuses(4, "!<0a");
        refuses(4, "v<a0<a0");
    }

    /** 7: "x not free in s and t": neither in s nor in t, but it may be bound there. */
    private void letterIsNotFreeInBothSets() {
        allows(7, ">^Lca<cbLcb<ca=ab");
        refuses(7, ">^Laa<abLab<aa=ab");
        refuses(7, ">^Lba<bbLbb<ba=ab");
        refuses(7, ">^Laa<aaLaa<aa=aa");
        refuses(7, ">^LcUc<cbLcb<cUc=Ucb");
        refuses(7, ">^Lca<c|bcLc|bc<ca=a|bc");
        refuses(7, ">^Lc{dc=dd<cbLcb<c{dc=dd={dc=ddb");
        refuses(7, ">^Lc{cc=cc<cbLcb<c{cc=cc={cc=ccb");
        allows(7, ">^Lc{ca=cc<cbLcb<c{ca=cc={ca=ccb");
        allows(7, ">^Lca<cIcbcLcIcbc<ca=aIcbc");
        refuses(7, ">^Lca<c|cIcbcLc|cIcbc<ca=a|cIcbc");
        refuses(7, ">^Lca<cbLdb<da=ab");
    }

    /** 9: "theorem j is >F and then it, theorem i is F". */
    private void detachedIsWhatStandsBehind() {
        AdjoinedSets x = new AdjoinedSets();
        check.prove(x, "=bb", 1, 0, 0, 0);
        check.prove(x, ">=bb>=aa=bb", 0, 0, 0, 1);
        check.prove(x, "v=bb!=bb", 0, 0, 0, 2);
        check.prove(x, ">=aa=bb", 9, 1, 0, NO);
        check.prove(x, ">=aa=bb", 9, 0, 0, NO);
        check.prove(x, ">=aa=bb", 9, 1, 1, NO);
        check.prove(x, ">=aa=bb", 9, 0, 2, NO);
        check.prove(x, ">=aa=bb", 9, 2, 1, NO);
        check.prove(x, "=bb", 9, 0, 1, NO);
        check.prove(x, "=bb", 9, 0, 0, NO);
        check.prove(x, "!=bb", 9, 0, 2, NO);
        check.prove(x, ">=aa=ba", 9, 0, 1, NO);
        check.prove(x, ">=bb>=aa=bb", 9, 0, 1, NO);
        check.prove(x, ">=aa=bb", 9, 0, 1, 3);
        check.prove(x, "=aa", 1, 0, 0, 4);
        check.prove(x, "=bb", 9, 0, 3, NO);
        check.prove(x, "=bb", 9, 4, 3, 5);
        check.prove(x, ">=aa=aa", 0, 0, 0, 6);
        check.prove(x, "=aa", 9, 4, 6, 7);
        detachesFromSixtyCharacters();
    }

    private void detachesFromSixtyCharacters() {
        AdjoinedSets x = new AdjoinedSets();
        String detached = "v=aa=U" + joined(13) + joined(13);
        check.due("length of what is detached", detached.length(), 56);
        check.prove(x, "=aa", 1, 0, 0, 0);
        check.prove(x, ">=aa" + detached, 0, 0, 0, 1);
        check.prove(x, detached.substring(0, 55) + "g", 9, 0, 1, NO);
        check.prove(x, detached, 9, 0, 1, 2);
        check.due("last character of theorem 1", x.theorem(1, 59), 'h');
        check.due("last character of theorem 2", x.theorem(2, 55), 'h');
    }

    private static String joined(int letters) {
        return letters == 1 ? "h" : "|" + joined(letters / 2) + joined(letters - letters / 2);
    }

    /** 10: "it is theorem i with some term for the letter j (0 is a)". */
    private void instanceOfTheLetterNamed() {
        for (int j = 0; j < 8; j++) {
            char letter = (char) ('a' + j);
            AdjoinedSets x = new AdjoinedSets();
            check.prove(x, "=" + letter + letter, 1, 0, 0, 0);
            for (int other = 0; other < 8; other++) {
                check.prove(x, "=99", 10, 0, other, other == j ? 1 : NO);
            }
            // Where the letter is not free, all stays as it is.
            check.prove(x, "=" + letter + letter, 10, 0, (j + 1) % 8, 2);
            check.prove(x, "=" + letter + letter, 10, 0, j, 3);
            check.prove(x, "=" + letter + "9", 10, 0, j, NO);
            check.prove(x, "<" + letter + letter, 10, 0, j, NO);
            check.prove(x, "=99", 10, 0, 8, BAD);
            check.prove(x, "=99", 10, 0, -1, BAD);
            check.prove(x, "=99", 10, 4, j, BAD);
            check.prove(x, "=99", 10, -1, j, BAD);
        }
        AdjoinedSets x = new AdjoinedSets();
        check.prove(x, "=ab", 1, 0, 0, NO);
        check.prove(x, ">=ab=ab", 0, 0, 0, 0);
        check.prove(x, ">=bb=bb", 10, 0, 0, 1);
        check.prove(x, ">=Ubb=Ubb", 10, 0, 0, 2);
        check.prove(x, ">=aa=aa", 10, 0, 1, 3);
        check.prove(x, ">=cd=cd", 10, 0, 0, NO);
        check.prove(x, ">=cb=ab", 10, 0, 0, NO);
        check.prove(x, ">=ab=cb", 10, 0, 0, NO);
        check.prove(x, ">=0b=0b=0b", 10, 0, 0, -107);
        check.prove(x, ">=Ub=ab", 10, 0, 0, -104);
    }

    /** 11: "LxsF, when theorem i is ><xsF, and x is not free in s". */
    private void allMembersWhereLetterIsNotFree() {
        generalizes("><ab<ab", "Lab<ab", true);
        generalizes("><hb<hb", "Lhb<hb", true);
        generalizes("><aUb<aUb", "LaUb<aUb", true);
        generalizes("><aa<aa", "Laa<aa", false);
        generalizes("><aUa<aUa", "LaUa<aUa", false);
        generalizes("><a|ba<a|ba", "La|ba<a|ba", false);
        generalizes("><a{ab=aa<a{ab=aa", "La{ab=aa<a{ab=aa", true);
        generalizes("><a{aa=aa<a{aa=aa", "La{aa=aa<a{aa=aa", false);
        generalizes("><aIbab<aIbab", "LaIbab<aIbab", false);
        generalizes("><ab<ab", "Lab<ba", false);
        generalizes("><ab<ab", "Lcb<cb", false);
        generalizes("><ab<ab", "Lab<cb", false);
        generalizes("><ab<ab", "Lac<ac", false);
        generalizes("><ab<ab", "Eab<ab", false);
        generalizes("><ab<ab", "<ab", false);
        generalizes("><ab<ab", "><ab<ab", false);
        generalizes(">=ab=ab", "Lab=ab", false);
        generalizes("v<ab!<ab", "Lab!<ab", false);
        generalizes("><Uab<Uab", "Lab<Uab", false);
        generalizes("><0b<0b", "Lab<0b", false);
    }

    private void generalizes(String theorem, String formula, boolean isRight) {
        AdjoinedSets x = new AdjoinedSets();
        check.prove(x, theorem, 0, 0, 0, 0);
        check.prove(x, formula, 11, 0, 77, isRight ? 1 : NO);
    }

    /** 12: "for some x and another y ..": each of the eight letters may be x, each other one y. */
    private void inductionNamesAnyLetter() {
        for (char x = 'a'; x <= 'h'; x++) {
            for (char y = 'a'; y <= 'h'; y++) {
                String it = "v=x1!=x1".replace('x', x);
                String step = ">" + it + "v=+xy1!=+xy1".replace('y', y).replace('x', x);
                induces(it, "v=01!=01", step, x != y);
            }
        }
        induces("v<ab!<ab", "v<a0!<a0", ">v<ab!<abv<a+bc!<a+bc", true);
        induces("v<ab!<ab", "v<0b!<0b", ">v<ab!<abv<a+bc!<a+bc", false);
        induces("v<ab!<ab", "v<a0!<a0", ">v<ab!<abv<+acb!<+acb", false);
        induces("v<ab!<ab", "v<a0!<a0", ">v<ab!<abv<a+cb!<a+cb", false);
    }

    /** 12: ".. y that is not free in it": bound it may be, but not so that y would be bound where x stands. */
    private void inductionWantsAnotherLetterNotFree() {
        for (char y = 'a'; y <= 'h'; y++) {
            String it = "vv<ab<cd!v<ab<cd";
            induces(it, it.replace('a', '0'), ">" + it + it.replace("a", "+a" + y), y > 'd');
        }
        // c is free in the second part alone, and in the first alone.
        induces("><ab>=cc<ab", "><0b>=cc<0b", ">><ab>=cc<ab><+acb>=cc<+acb", false);
        induces("><ab>=cc<ab", "><0b>=cc<0b", ">><ab>=cc<ab><+adb>=cc<+adb", true);
        induces(">^=cc<ab<ab", ">^=cc<0b<0b", ">>^=cc<ab<ab>^=cc<+acb<+acb", false);
        induces(">^=cc<ab<ab", ">^=cc<0b<0b", ">>^=cc<ab<ab>^=cc<+adb<+adb", true);
        induces("vEca=cd!Eca=cd", "vEc0=cd!Ec0=cd", ">vEca=cd!Eca=cdvEc+ac=cd!Ec+ac=cd", true);
        induces("vEca=cd!Eca=cd", "vEc0=cd!Ec0=cd", ">vEca=cd!Eca=cdvEc+ad=cd!Ec+ad=cd", false);
        induces("vEca=cd!Eca=cd", "vEca=c0!Eca=c0", ">vEca=cd!Eca=cdvEca=c+dc!Eca=c+dc", false);
        induces("vEca=cd!Eca=cd", "vEca=c0!Eca=c0", ">vEca=cd!Eca=cdvEca=c+db!Eca=c+db", true);
        induces("vEca=cd!Eca=cd", "vEca=c0!Eca=c0", ">vEca=cd!Eca=cdvEca=c+da!Eca=c+da", false);
    }

    /** 12: "theorem i is it with 0 for x, and theorem j is > and it and then it with +xy for x". */
    private void inductionWantsBothTheorems() {
        String it = "v<ab!<ab";
        String zero = "v<0b!<0b";
        String step = ">v<ab!<abv<+acb!<+acb";
        induces(it, zero, step, true);
        induces(it, it, step, false);
        induces(it, "v<1b!<1b", step, false);
        induces(it, "v<00!<00", step, false);
        induces(it, zero, ">v<0b!<0bv<+acb!<+acb", false);
        induces(it, zero, ">v<ab!<abv<+cab!<+cab", false);
        induces(it, zero, ">v<ab!<abv<+0cb!<+0cb", false);
        induces(it, zero, ">v<ab!<abv<|acb!<|acb", false);
        induces(it, zero, ">v<ab!<abv<+a1b!<+a1b", false);
        induces(it, zero, ">v<ab!<abv<cb!<cb", false);
        induces(it, zero, ">v<ab!<abv<ab!<ab", false);
        induces(it, zero, "vv<ab!<abv<+acb!<+acb", false);
        induces(it, zero, it, false);
        induces("v<cb!<cb", zero, step, false);
        // Where x is not free, it with any term for x is it.
        induces("v=01!=01", "v=01!=01", ">v=01!=01v=01!=01", true);
    }

    private void induces(String formula, String ofZero, String step, boolean isRight) {
        AdjoinedSets x = new AdjoinedSets();
        check.prove(x, ofZero, 0, 0, 0, 0);
        check.prove(x, step, 0, 0, 0, 1);
        check.prove(x, formula, 12, 1, 0, NO);
        check.prove(x, formula, 12, 0, 0, NO);
        check.prove(x, formula, 12, 1, 1, NO);
        check.prove(x, formula, 12, 0, 1, isRight ? 2 : NO);
    }

    /** 13: "= and a function's name and terms, as many as it takes, and its body with these for its letters". */
    private void unfoldingWantsTheBody() {
        AdjoinedSets x = new AdjoinedSets();
        check.define(x, 0, 1, "UIba+AbAb", 0);
        check.define(x, 1, 2, "+ab", 0);
        check.define(x, 2, 3, "0", 0);
        check.prove(x, "=A0UIb0+AbAb", 13, 0, 0, 0);
        check.prove(x, "=AbUIbb+AbAb", 13, 0, 0, 1);
        check.prove(x, "=A0UIb1+AbAb", 13, 0, 0, NO);
        check.prove(x, "=A0UIc0+AcAc", 13, 0, 0, NO);
        check.prove(x, "=A00", 13, 0, 0, NO);
        check.prove(x, "=A0A0", 13, 0, 0, NO);
        check.prove(x, "=UIb0+AbAbA0", 13, 0, 0, NO);
        check.prove(x, "<A0UIb0+AbAb", 13, 0, 0, NO);
        check.prove(x, "!=A0UIb0+AbAb", 13, 0, 0, NO);
        check.prove(x, "=UA0UUIb0+AbAb", 13, 0, 0, NO);
        check.prove(x, "=Bcd+cd", 13, 0, 0, 2);
        check.prove(x, "=Bcd+dc", 13, 0, 0, NO);
        check.prove(x, "=Bcd+ab", 13, 0, 0, NO);
        check.prove(x, "=Bab+ab", 13, 0, 0, 3);
        check.prove(x, "=+ab+ab", 13, 0, 0, NO);
        check.prove(x, "=Cabc0", 13, 0, 0, 4);
        check.prove(x, "=Cabc1", 13, 0, 0, NO);
        check.prove(x, "=BB01B23+B01B23", 13, 0, 0, 5);
        check.prove(x, "=BB01B23+B01+23", 13, 0, 0, NO);
        check.prove(x, "=D00", 13, 0, 0, -101);
        check.prove(x, "=Bcd", 13, 0, 0, -104);
    }

    /** "Rules 9 and 12 name the theorems i and j, 10 and 11 just i, the others none": other numbers may be any. */
    private void unusedNumbersAreAny() {
        int[] any = {0, 1, -1, 15, 16, 17, Integer.MIN_VALUE, Integer.MAX_VALUE};
        for (int i : any) {
            for (int j : any) {
                AdjoinedSets x = new AdjoinedSets();
                for (int k = 0; k < RULES.length; k++) {
                    check.prove(x, FORMS[k], RULES[k], i, j, k);
                }
                check.prove(x, "!<a0", 4, i, j, 11);
                check.prove(x, "v=aa!=aa", 0, i, j, 12);
                check.define(x, 0, 1, "a", 0);
                check.prove(x, "=A00", 13, i, j, 13);
                check.prove(x, "=A00", 12, i, 14, BAD);
                check.prove(x, "=A00", 12, 14, j, BAD);
                check.prove(x, "=A00", 9, i, 14, BAD);
                check.prove(x, "=A00", 9, 14, j, BAD);
            }
            AdjoinedSets x = new AdjoinedSets();
            check.prove(x, "><ab<ab", 0, i, i, 0);
            check.prove(x, "Lab<ab", 11, 0, i, 1);
            check.prove(x, "Lab<ab", 11, 2, i, BAD);
            check.prove(x, "Lab<ab", 11, -1, i, BAD);
        }
    }

    /** A rule looks at the buffer and the theorems that it names, not at what another call looked at before. */
    private void nothingIsLeftOver() {
        for (int first = 0; first <= 17; first++) {
            for (int second = 0; second <= 17; second++) {
                AdjoinedSets x = new AdjoinedSets();
                check.define(x, 0, 2, "{cb=ca", 0);
                check.prove(x, "v<0b!<0b", 0, 0, 0, 0);
                check.prove(x, ">v<ab!<abv<+aeb!<+aeb", 0, 0, 0, 1);
                check.prove(x, "><fg<fg", 0, 0, 0, 2);
                check.prove(x, ">><fg<fg=fg", 0, 0, 0, NO);
                check.prove(x, ">><fg<fgv=ab><fg<fg", 0, 0, 0, 3);
                check.prove(x, RIGHT[first], first, NAMED_I[first], NAMED_J[first], 4);
                check.prove(x, NOT_RIGHT[second], second, NAMED_I[second], NAMED_J[second], NO);
                check.prove(x, RIGHT[second], second, NAMED_I[second], NAMED_J[second], 5);
                check.prove(x, NOT_RIGHT[first], first, NAMED_I[first], NAMED_J[first], NO);
                check.prove(x, RIGHT[first], first, NAMED_I[first], NAMED_J[first], 6);
            }
        }
        AdjoinedSets x = new AdjoinedSets();
        // Each of them has six parts, at other places than those of the one before.
        check.prove(x, "v=01v=02v=03v=04v=05v=06!=01", 0, 0, 0, 0);
        check.prove(x, "v!=11v=12v=13v=14v=15v=16=11", 0, 0, 0, 1);
        check.prove(x, "vv=1av=2av=3av=4av=5a!=6a=6a", 0, 0, 0, 2);
        check.prove(x, "v=Uabv=2av=3av=4av=5av!=6a=6a", 0, 0, 0, 3);
    }
}
