/** Promise 8: prove, by each of the rules. */
public final class RulesTest {
    private static final int NO = AdjoinedSets.NO;

    private final Check check = new Check();

    public static void main(String[] args) {
        RulesTest test = new RulesTest();
        test.truthValues();
        test.equality();
        test.adjoining();
        test.extensionality();
        test.specialization();
        test.comprehension();
        test.quantifiers();
        test.detachment();
        test.instances();
        test.allMembers();
        test.induction();
        test.unfolding();
        test.check.end("RulesTest");
    }

    private void allows(int rule, String formula) {
        check.prove(new AdjoinedSets(), formula, rule, -1, -1, 0);
    }

    private void refuses(int rule, String formula) {
        AdjoinedSets x = new AdjoinedSets();
        check.prove(x, formula, rule, -1, -1, NO);
        check.due("theorems after " + formula, x.theorems(), 0);
    }

    private void truthValues() {
        allows(0, "v=aa!=aa");
        allows(0, ">=ab=ab");
        allows(0, ">>>=ab=cd=ab=ab");
        allows(0, "vEab=ab!Eab=ab");
        allows(0, "!^=ab!=ab");
        allows(0, ">!!!!!!!!!=ab!=ab");
        allows(0, "v=01v=02v=03v=04v=05v=06!=01");
        refuses(0, "v=01v=02v=03v=04v=05v=06v=07!=01");
        refuses(0, "=aa");
        refuses(0, "!=01");
        refuses(0, "^=aa!=aa");
        refuses(0, "v=ab=ab");
        refuses(0, ">=ab=ba");
        refuses(0, "vLab=aa!=aa");
        refuses(0, ">=ab^=ab=cd");
        refuses(0, "Lab>=ab=ab");
    }

    private void equality() {
        allows(1, "=aa");
        allows(1, "=+ab+ab");
        allows(1, "={ab=aa{ab=aa");
        refuses(1, "=ab");
        refuses(1, "<aa");
        refuses(1, "=+ab+ba");
        allows(2, ">=ab><ac<bc");
        allows(2, ">=PaUb><Pa{c0=cc<Ub{c0=cc");
        refuses(2, ">=ab><ac<cb");
        refuses(2, ">=ab><bc<ac");
        refuses(2, ">=ab><ca<cb");
        refuses(2, ">=ab><ac<bd");
        allows(3, ">=ab><ca<cb");
        refuses(3, ">=ab><ac<bc");
        refuses(3, ">=ab><ca<db");
        refuses(3, "=aa");
    }

    private void adjoining() {
        allows(4, "!<a0");
        allows(4, "!<+ab0");
        allows(4, "!<00");
        refuses(4, "!<a1");
        refuses(4, "!<0a");
        refuses(4, "!=a0");
        allows(5, "><a+bcv<ab=ac");
        allows(5, "><Pa+UbTcv<PaUb=PaTc");
        refuses(5, "><a+bcv<ac=ab");
        refuses(5, "><a|bcv<ab=ac");
        refuses(5, "><a+bc^<ab=ac");
        allows(6, ">v<ab=ac<a+bc");
        refuses(6, ">v<ab=ac<a+cb");
        refuses(6, "><a+bcv<ab=ac");
        refuses(6, ">v<ab=dc<a+bc");
    }

    private void extensionality() {
        allows(7, ">^Lca<cbLcb<ca=ab");
        allows(7, ">^LcPa<cUbLcUb<cPa=PaUb");
        allows(7, ">^Lc{ca=cc<cbLcb<c{ca=cc={ca=ccb");
        refuses(7, ">^Laa<abLab<aa=ab");
        refuses(7, ">^Lba<bbLbb<ba=ab");
        refuses(7, ">^Lca<cbLdb<da=ab");
        refuses(7, ">^Lca<cbLcb<ca=ba");
        refuses(7, ">^Lca<cbLcb<ca=ac");
        refuses(7, ">^Eca<cbEcb<ca=ab");
    }

    private void specialization() {
        allows(8, ">Lcb<ca><db<da");
        allows(8, ">Lcb=aa><db=aa");
        allows(8, ">Lcc<ca><dc<da");
        allows(8, ">LcbEdb=cd><ebEdb=ed");
        allows(8, ">Lcb<ca><+ccb<+cca");
        allows(8, ">LcbEcc=cc><dbEcd=cc");
        allows(8, ">LcbEdc=dd><dbEdd=dd");
        refuses(8, ">LcbEdb=cd><dbEdb=dd");
        refuses(8, ">LcbEdb=cd><+edbEdb=+edd");
        allows(8, ">LcbEdb=cd><{db=ddbEdb={db=ddd");
        refuses(8, ">LcbEcc=cc><dbEdd=dd");
        refuses(8, ">LcbEcc=cc><dbEcd=dd");
        refuses(8, ">Lcb<ca><db<dd");
        refuses(8, ">Lcb<ca><db<ca");
        refuses(8, ">Lcb<ca><da<da");
        refuses(8, ">Ecb<ca><db<da");
        refuses(8, ">Lcb<cc><db<dc");
    }

    private void comprehension() {
        allows(14, "><a{bc<b0^<ac<a0");
        allows(14, "><+bb{bb<b0^<+bbb<+bb0");
        refuses(14, "><a{bc<b0^<ac<b0");
        refuses(14, "><a{bcEac=ab^<acEac=aa");
        refuses(14, "><a{bc<b0^<ad<a0");
        refuses(14, ">^<ac<a0<a{bc<b0");
        allows(15, ">^<ac<a0<a{bc<b0");
        allows(15, ">^<ac=00<a{bc=00");
        refuses(15, ">^<ac<b0<a{bc<b0");
        refuses(15, ">^<acEac=aa<a{bcEac=ab");
        refuses(15, ">^<dc<a0<a{bc<b0");
        refuses(15, "><a{bc<b0^<ac<a0");
    }

    private void quantifiers() {
        allows(16, ">Eab=ab!Lab!=ab");
        allows(16, ">EaaEbb=ab!Laa!Ebb=ab");
        refuses(16, ">Eab=ab!Lab=ab");
        refuses(16, ">Eab=ab!Lcb!=cb");
        refuses(16, ">Eab=ab!Lac!=ab");
        refuses(16, ">!Lab!=abEab=ab");
        allows(17, ">!Lab!=abEab=ab");
        refuses(17, ">!Lab!=abEab=ba");
        refuses(17, ">Lab!=abEab=ab");
        refuses(17, ">Eab=ab!Lab!=ab");
    }

    private void detachment() {
        AdjoinedSets x = new AdjoinedSets();
        check.prove(x, "=bb", 1, 0, 0, 0);
        check.prove(x, ">=bb>=aa=bb", 0, 0, 0, 1);
        check.prove(x, ">=aa=bb", 9, 0, 1, 2);
        check.prove(x, ">=aa=bb", 9, 1, 0, NO);
        check.prove(x, ">=aa=bb", 9, 0, 0, NO);
        check.prove(x, "=bb", 9, 0, 1, NO);
        check.prove(x, ">=aa=aa", 9, 0, 1, NO);
        check.prove(x, "=bb", 9, 0, 2, NO);
        check.prove(x, "=aa", 1, 0, 0, 3);
        check.prove(x, "=bb", 9, 3, 2, 4);
    }

    private void instances() {
        AdjoinedSets x = new AdjoinedSets();
        check.prove(x, "=aa", 1, 0, 0, 0);
        check.prove(x, "=bb", 10, 0, 0, 1);
        check.prove(x, "=+ab+ab", 10, 0, 0, 2);
        check.prove(x, "=+ab+ba", 10, 0, 0, NO);
        check.prove(x, "=ab", 10, 0, 0, NO);
        check.prove(x, "=aa", 10, 0, 1, 3);
        check.prove(x, "=bb", 10, 0, 1, NO);
        check.prove(x, "<aa", 10, 0, 0, NO);
        check.prove(x, "=0=00", 10, 0, 0, -102);
        check.prove(x, "vEab=ac!Eab=ac", 0, 0, 0, 4);
        check.prove(x, "vEab=aa!Eab=aa", 10, 4, 2, NO);
        check.prove(x, "vEab=a+da!Eab=a+da", 10, 4, 2, NO);
        check.prove(x, "vEab=ad!Eab=ad", 10, 4, 2, 5);
        check.prove(x, "vEab=ad!Eab=ac", 10, 4, 2, NO);
        check.prove(x, "vEaPa=ac!EaPa=ac", 10, 4, 1, 6);
        check.prove(x, "vEab=ac!Eab=ac", 10, 4, 0, 7);
        check.prove(x, "vEdb=dc!Edb=dc", 10, 4, 0, NO);
        check.prove(x, "vEdb=ac!Eab=ac", 10, 4, 2, NO);
        check.prove(x, "vEab=a{ac=aa!Eab=a{ac=aa", 10, 4, 2, 8);
        check.prove(x, "vEab=a{aa=aa!Eab=a{aa=aa", 10, 4, 2, NO);
        check.prove(x, "=UUUUUUUUUUaUUUUUUUUUUa", 1, 0, 0, 9);
        check.prove(x, "=UUUUUUUUUUbUUUUUUUUUUb", 10, 9, 0, 10);
        check.prove(x, "=UUUUUUUUUUbUUUUUUUUUUa", 10, 9, 0, NO);
    }

    private void allMembers() {
        AdjoinedSets x = new AdjoinedSets();
        check.prove(x, "><ab<ab", 0, 0, 0, 0);
        check.prove(x, "Lab<ab", 11, 0, 7, 1);
        check.prove(x, "Lab<ba", 11, 0, 0, NO);
        check.prove(x, "Lcb<cb", 11, 0, 0, NO);
        check.prove(x, "Eab<ab", 11, 0, 0, NO);
        check.prove(x, "><aa<aa", 0, 0, 0, 2);
        check.prove(x, "Laa<aa", 11, 2, 0, NO);
        check.prove(x, "><a{ab=aa<a{ab=aa", 0, 0, 0, 3);
        check.prove(x, "La{ab=aa<a{ab=aa", 11, 3, 0, 4);
        check.prove(x, "><a+ba<a+ba", 0, 0, 0, 5);
        check.prove(x, "La+ba<a+ba", 11, 5, 0, NO);
        check.prove(x, "><Pab<Pab", 0, 0, 0, 6);
        check.prove(x, "LPab<Pab", 11, 6, 0, -101);
        check.prove(x, ">=ab=ab", 0, 0, 0, 7);
        check.prove(x, "Lab=ab", 11, 7, 0, NO);
    }

    private void induction() {
        induces("v<ab!<ab", "v<0b!<0b", ">v<ab!<abv<+acb!<+acb", true);
        induces("v<ab!<ab", "v<0b!<0b", ">v<ab!<abv<+ahb!<+ahb", true);
        induces("v<ab!<ab", "v<a0!<a0", ">v<ab!<abv<a+bc!<a+bc", true);
        induces("v<ab!<ab", "v<0b!<0b", ">v<ab!<abv<+abb!<+abb", false);
        induces("v<ab!<ab", "v<0b!<0b", ">v<ab!<abv<+aab!<+aab", false);
        induces("v<ab!<ab", "v<0b!<0b", ">v<ab!<abv<+cab!<+cab", false);
        induces("v<ab!<ab", "v<0b!<0b", ">v<ab!<abv<a+bc!<a+bc", false);
        induces("v<ab!<ab", "v<1b!<1b", ">v<ab!<abv<+acb!<+acb", false);
        induces("v<ab!<ab", "v<0b!<0b", ">v<0b!<0bv<+acb!<+acb", false);
        induces("vEca=cd!Eca=cd", "vEca=c0!Eca=c0", ">vEca=cd!Eca=cdvEca=c+db!Eca=c+db", true);
        induces("vEca=cd!Eca=cd", "vEca=c0!Eca=c0", ">vEca=cd!Eca=cdvEca=c+dc!Eca=c+dc", false);
        induces("vEca=cd!Eca=cd", "vEc0=cd!Ec0=cd", ">vEca=cd!Eca=cdvEc+ac=cd!Ec+ac=cd", true);
        induces("v=00!=00", "v=00!=00", ">v=00!=00v=00!=00", true);
        induces("v<1b!<1b", "v<10!<10", ">v<1b!<1bv<1+ba!<1+ba", true);
        induces("v<1h!<1h", "v<10!<10", ">v<1h!<1hv<1+hg!<1+hg", true);
    }

    private void induces(String formula, String ofZero, String step, boolean isRight) {
        AdjoinedSets x = new AdjoinedSets();
        check.prove(x, ofZero, 0, 0, 0, 0);
        check.prove(x, step, 0, 0, 0, 1);
        check.prove(x, formula, 12, 0, 1, isRight ? 2 : NO);
        check.prove(x, formula, 12, 1, 0, NO);
    }

    private void unfolding() {
        AdjoinedSets x = new AdjoinedSets();
        check.define(x, 0, 1, "UIba+AbAb", 0);
        check.define(x, 1, 2, "+ab", 0);
        check.define(x, 2, 3, "{dc^<da<db", 0);
        check.prove(x, "=A0UIb0+AbAb", 13, 0, 0, 0);
        check.prove(x, "=AbUIbb+AbAb", 13, 0, 0, 1);
        check.prove(x, "=A+01UIb+01+AbAb", 13, 0, 0, 2);
        check.prove(x, "=A0UIba+AbAb", 13, 0, 0, NO);
        check.prove(x, "=UIb0+AbAbA0", 13, 0, 0, NO);
        check.prove(x, "<A0UIb0+AbAb", 13, 0, 0, NO);
        check.prove(x, "=Bba+ba", 13, 0, 0, 3);
        check.prove(x, "=Bba+ab", 13, 0, 0, NO);
        check.prove(x, "=Bba+aa", 13, 0, 0, NO);
        check.prove(x, "=+ab+ab", 13, 0, 0, NO);
        check.prove(x, "=Cabc{dc^<da<db", 13, 0, 0, 4);
        check.prove(x, "=Cbcd{dd^<db<dc", 13, 0, 0, 5);
        check.prove(x, "=Cdbc{dc^<dd<db", 13, 0, 0, NO);
        check.prove(x, "=Cabc{ec^<ea<eb", 13, 0, 0, NO);
        check.prove(x, "=D0D0", 13, 0, 0, -101);
    }
}
