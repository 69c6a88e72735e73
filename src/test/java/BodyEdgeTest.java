/** The sentences under "Terms" on functions and their bodies: each method stands for the sentence above it. */
public final class BodyEdgeTest {
    private final Check check = new Check();

    public static void main(String[] args) {
        BodyEdgeTest test = new BodyEdgeTest();
        test.takesOneToThree();
        test.lettersStandForWhatIsGiven();
        test.otherFreeLettersAreWrong();
        test.boundLettersAreNotFree();
        test.firstWrongPlaceOfAnyKindCounts();
        test.undefinedNamesAreWrong();
        test.refusedBodiesDefineNothing();
        test.ownNameMayStand();
        test.ownNameWantsABoundLetter();
        test.ownNameWantsTheGivenSet();
        test.nearestBindingCounts();
        test.givenLetterMustNotBeBound();
        test.ownNameTakesAllItsTerms();
        test.ownNameIsFreeElsewhere();
        test.bodiesAreReadTwelveDeep();
        test.bodiesOfSixtyCharacters();
        test.check.end("BodyEdgeTest");
    }

    private void allows(int n, String body) {
        check.define(new AdjoinedSets(), 0, n, body, 0);
    }

    private void isWrong(int n, String body, int place) {
        AdjoinedSets x = new AdjoinedSets();
        check.define(x, 0, n, body, -100 - place);
        check.eval(x, "A000", -100);
    }

    /** "A FUNCTION takes 1 to 3 terms". */
    private void takesOneToThree() {
        for (int n = 1; n <= 3; n++) {
            AdjoinedSets x = new AdjoinedSets();
            check.define(x, 0, n, "a", 0);
            String zeros = "000";
            for (int k = 0; k < n; k++) {
                check.eval(x, "A" + zeros.substring(0, k), -101 - k);
            }
            check.eval(x, "A" + zeros.substring(0, n), 0);
            check.eval(x, "A0" + zeros.substring(0, n), -101 - n);
        }
        isBad(0);
        isBad(4);
        isBad(-1);
        isBad(8);
    }

    private void isBad(int n) {
        AdjoinedSets x = new AdjoinedSets();
        check.define(x, 0, n, "a", AdjoinedSets.BAD);
        check.eval(x, "A0", -100);
    }

    /** "its letters a, b, c (as many as it takes) stand for what it is given". */
    private void lettersStandForWhatIsGiven() {
        AdjoinedSets x = new AdjoinedSets();
        x.let(0, 100);
        x.let(1, 200);
        x.let(2, 400);
        check.define(x, 0, 1, "a", 0);
        check.define(x, 1, 2, "b", 0);
        check.define(x, 2, 3, "c", 0);
        check.define(x, 3, 3, "-a-bc", 0);
        check.eval(x, "A5", 5);
        check.eval(x, "B56", 6);
        check.eval(x, "C567", 7);
        check.eval(x, "D764", 5);
        check.eval(x, "D467", 4);
        check.eval(x, "Ac", 400);
        check.eval(x, "Bba", 100);
        check.eval(x, "Ccab", 200);
        check.eval(x, "C|123B34", 4);
    }

    /** "and no others are free: the first other free letter is a wrong place, too". */
    private void otherFreeLettersAreWrong() {
        String letters = "abcdefgh";
        for (int n = 1; n <= 3; n++) {
            for (int k = 0; k < 8; k++) {
                char c = letters.charAt(k);
                String[] bodies = {"" + c, "U" + c, "+0" + c, "|a" + c, "{da=0" + c, "{da<" + c + "a", "Id0|a" + c, "Id" + c + "0"};
                int[] places = {0, 1, 2, 2, 5, 4, 5, 2};
                for (int m = 0; m < bodies.length; m++) {
                    boolean isBound = c == 'd' && m >= 4 && m <= 6;
                    if (k < n || isBound) {
                        allows(n, bodies[m]);
                    } else {
                        isWrong(n, bodies[m], places[m]);
                    }
                }
            }
        }
        isWrong(1, "|b|cd", 1);
        isWrong(2, "|b|cd", 3);
        isWrong(3, "|b|cd", 4);
    }

    /** The same: a letter is free again behind the part in which it is bound, and in the term over which it is. */
    private void boundLettersAreNotFree() {
        allows(1, "Ib0b");
        allows(1, "{h0=hh");
        allows(1, "{b0Ec0^=bc=cb");
        allows(1, "{b0Lc0^=bc=cb");
        isWrong(1, "|Ib0bb", 5);
        isWrong(1, "|{b0=bbb", 7);
        isWrong(1, "{b0^Ec0=cb=cb", 11);
        isWrong(1, "{b0^Lc0=cb=bc", 12);
        isWrong(1, "Ibbb", 2);
        isWrong(1, "{bb=bb", 2);
        isWrong(1, "{b0Ecc=cc", 5);
        isWrong(1, "{b0Lcc=cc", 5);
        allows(1, "{b0Ecb=cc");
        allows(1, "Ib0|Ib1bb");
        isWrong(1, "Ic0|Ib1bb", 8);
        // The letter of a binder alone is no free letter.
        allows(1, "Ih00");
    }

    /** "It is WRONG at the first place": of other letters, undefined names and characters that do not go on. */
    private void firstWrongPlaceOfAnyKindCounts() {
        isWrong(1, "+bz", 1);
        isWrong(1, "+zb", 1);
        isWrong(1, "+bB", 1);
        isWrong(1, "+Bb", 1);
        isWrong(1, "+b", 1);
        isWrong(1, "+bAa", 1);
        isWrong(1, "+Aab", 2);
        isWrong(1, "+ab0", 2);
        isWrong(2, "+ab0", 3);
        isWrong(2, "+abc", 3);
        isWrong(1, "+a", 2);
        isWrong(1, "", 0);
        isWrong(1, "=aa", 0);
        isWrong(1, "+=aab", 1);
        isWrong(1, "UUUUUUUUUUUUb", 12);
        isWrong(1, "+bUUUUUUUUUUUU", 1);
    }

    /** "Names of functions that are not defined are wrong where they stand". */
    private void undefinedNamesAreWrong() {
        for (char name = 'A'; name <= 'D'; name++) {
            AdjoinedSets x = new AdjoinedSets();
            check.eval(x, name + "0", -100);
            check.eval(x, "+0" + name + "0", -102);
            check.truth(x, "=" + name + "00", -101);
            check.prove(x, "=0" + name + "0", 1, 0, 0, -102);
            check.refute(x, "!=" + name + "00", 1, -102);
            for (int f = 0; f < 4; f++) {
                if (f != name - 'A') {
                    check.define(x, f, 1, "|a" + name + "a", -102);
                }
            }
        }
        AdjoinedSets x = new AdjoinedSets();
        check.define(x, 1, 1, "Iba|bAb", -105);
        check.define(x, 0, 1, "a", 0);
        check.define(x, 1, 1, "Iba|bAb", 0);
        check.eval(x, "C0", -100);
        check.eval(x, "E0", -100);
        check.eval(x, "@0", -100);
    }

    /** A body that is wrong defines nothing, and another one may come. */
    private void refusedBodiesDefineNothing() {
        AdjoinedSets x = new AdjoinedSets();
        check.define(x, 2, 1, "b", -100);
        check.eval(x, "C0", -100);
        check.define(x, 2, 2, "b", 0);
        check.eval(x, "C03", 3);
        check.define(x, 2, 1, "a", AdjoinedSets.BAD);
        check.eval(x, "C03", 3);
    }

    /** "in its own body a function's name may stand if its first term is just a letter that is bound .. over .. just a". */
    private void ownNameMayStand() {
        allows(1, "IbaAb");
        allows(1, "{ba=0Ab");
        allows(1, "{c0Eba=0Ab");
        allows(1, "{c0Lba=0Ab");
        for (char letter = 'a'; letter <= 'h'; letter++) {
            allows(1, "I" + letter + "aA" + letter);
            allows(3, "{" + letter + "a=A" + letter + "000");
        }
        allows(1, "Iba|Ab|b+AbAb");
        allows(1, "IbaUPTAb");
        allows(1, "IbaIcAbc");
        allows(1, "IbaIcbAb");
        allows(1, "IbaIca|AbAc");
        allows(1, "IbaIa0Ab");
        allows(1, "IcaIcaAc");
        allows(1, "Iba{c0Ed0=AbAb");
        allows(2, "IcaAcAcAcb");
        allows(2, "IcaAcIdaAda");
        allows(3, "IdbIeaAedAeac");
        AdjoinedSets x = new AdjoinedSets();
        for (int f = 0; f < 4; f++) {
            char name = (char) ('A' + f);
            check.define(x, f, 1, "Iba" + name + "b", 0);
            check.eval(x, name + "9", 9);
        }
    }

    /** "(another character at the place of that first term is wrong)". */
    private void ownNameWantsABoundLetter() {
        for (char c = 33; c <= 126; c++) {
            AdjoinedSets x = new AdjoinedSets();
            check.define(x, 0, 1, "A" + c, -101);
            check.define(x, 0, 1, "A" + c + "0", -101);
            if (c != 'b') {
                check.define(x, 0, 1, "IbaA" + c, -104);
                check.define(x, 0, 1, "IbaA" + c + "b", -104);
                check.define(x, 0, 3, "IbaA" + c + "00", -104);
            }
            if (c != 'b' && c != 'c') {
                check.define(x, 0, 1, "IbaIcaA" + c, -107);
            }
            check.define(x, 0, 1, "|IbaAbA" + c, -107);
        }
        isWrong(1, "A", 1);
        isWrong(1, "IbaA", 4);
        isWrong(1, "IbAbb", 3);
        isWrong(2, "IcaAcAbb", 6);
    }

    /** ".. over a term that is just a". */
    private void ownNameWantsTheGivenSet() {
        String[] terms = {"0", "9", "b", "c", "+aa", "|a0", "&aa", "-a0", "Ua", "Pa", "Ta", "{da=dd", "Idad"};
        for (String term : terms) {
            isWrong(3, "Ie" + term + "Ae00", 3 + term.length());
            isWrong(3, "{e" + term + "=0Ae00", 5 + term.length());
            isWrong(3, "{d0Ee" + term + "=Ae000", 7 + term.length());
            isWrong(3, "{d0Le" + term + "=Ae000", 7 + term.length());
        }
        isWrong(1, "IbaIcbAc", 7);
        isWrong(1, "IcaIbcAb", 7);
    }

    /** ".. bound, at its nearest,": what binds the letter farther out does not count. */
    private void nearestBindingCounts() {
        isWrong(1, "IbaIb0Ab", 7);
        isWrong(1, "IbaIbbAb", 7);
        isWrong(1, "Iba{bUa=0Ab", 10);
        isWrong(1, "IbaIcaIb0Ab", 10);
        allows(1, "IbaIcaIb0Ac");
        allows(1, "Ib0IbaAb");
        allows(1, "IbaIc0Ab");
        // Behind the inner one, the outer one is the nearest again.
        allows(1, "Iba|Ib0bAb");
        isWrong(1, "Ib0|IbaAbAb", 10);
        // In the term over which it binds, the inner one does not bind yet.
        allows(1, "IbaIbAbb");
        isWrong(1, "Ib0IbAbb", 6);
    }

    /** ".. a, which is not bound there". */
    private void givenLetterMustNotBeBound() {
        isWrong(1, "Ia0IbaAb", 7);
        isWrong(1, "IaaIbaAb", 7);
        isWrong(1, "IaPaIbaAb", 8);
        isWrong(1, "{a0Eba=Ab0", 8);
        isWrong(1, "IaaIaaAa", 7);
        allows(1, "IaaAa");
        allows(1, "IaaIb0Aa");
        allows(1, "|Ia0aIbaAb");
        allows(1, "IbaIa0Ab");
        allows(1, "IbIa0aIca|0Ac");
        isWrong(1, "Ia0|aIbaAb", 9);
    }

    /** "with as many terms behind it as it takes": the number that the definition tells. */
    private void ownNameTakesAllItsTerms() {
        isWrong(1, "IbaAb0", 5);
        isWrong(2, "IcaAc", 5);
        allows(2, "IcaAc0");
        isWrong(2, "IcaAc00", 6);
        isWrong(3, "IdaAd0", 6);
        allows(3, "IdaAd00");
        isWrong(2, "IcaAcc0", 6);
        isWrong(2, "IcaAcd", 5);
        isWrong(2, "IcaAc=", 5);
    }

    /** "but in its own body": elsewhere the name of a function, once defined, stands before any terms. */
    private void ownNameIsFreeElsewhere() {
        AdjoinedSets x = new AdjoinedSets();
        check.define(x, 0, 1, "IbaAb", 0);
        check.eval(x, "A9", 9);
        check.eval(x, "A+88", 264);
        check.eval(x, "AA9", 9);
        check.define(x, 1, 1, "Aa", 0);
        check.define(x, 2, 1, "A+BaA9", 0);
        check.define(x, 3, 1, "Iba|DbAUa", 0);
        check.eval(x, "B5", 5);
        check.eval(x, "C1", 513);
    }

    /** "The whole lies at DEPTH 1": the whole of a body does, too, and its function's own terms lie one deeper. */
    private void bodiesAreReadTwelveDeep() {
        allows(1, "UUUUUUUUUUUa");
        isWrong(1, "UUUUUUUUUUUUa", 12);
        allows(1, "UUUUUUUUUIbaAb");
        isWrong(1, "UUUUUUUUUIbaUAb", 14);
        isWrong(1, "UUUUUUUUUUIbaAb", 14);
        isWrong(1, "UUUUUUUUUUUIbaAb", 13);
        allows(2, "UUUUUUUUIcaAcUa");
        isWrong(2, "UUUUUUUUIcaAcUUa", 15);
    }

    /** "THE BUFFER has at most 60 characters": a body may have as many. */
    private void bodiesOfSixtyCharacters() {
        String body = "U" + joined(30);
        check.due("length of the body", body.length(), 60);
        AdjoinedSets x = new AdjoinedSets();
        check.define(x, 3, 1, body.substring(0, 59), -159);
        check.define(x, 3, 1, body.substring(0, 59) + "b", -159);
        check.define(x, 3, 1, body, 0);
        check.eval(x, "D6", 3);
        check.eval(x, "DD6", 1);
    }

    private static String joined(int letters) {
        return letters == 1 ? "a" : "|" + joined(letters / 2) + joined(letters - letters / 2);
    }
}
