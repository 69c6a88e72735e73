/**
 * The sentences under "Terms" on READING: each method stands for the sentence above it. Since operators stand first,
 * each place of a text wants one kind of thing: a term (T), a formula (F) or a letter (x).
 */
public final class ReadingEdgeTest {
    private static final String TERM_STARTS = "0123456789abcdefgh+|&-UPT{IABC";
    private static final String FORMULA_STARTS = "<=!^v>EL";
    private static final String LETTERS = "abcdefgh";

    private static final String[] TERMS = {"0", "h", "+ab", "|ab", "&ab", "-ab", "Ua", "Pa", "Ta", "{b1=cd", "Ib1c",
        "A0", "B01", "C012"};
    private static final String[] TERM_KINDS = {"T", "T", "TTT", "TTT", "TTT", "TTT", "TT", "TT", "TT", "TxTFTT",
        "TxTT", "TT", "TTT", "TTTT"};
    private static final String[] FORMULAS = {"<ab", "=ab", "!=ab", "^=ab=cd", "v=ab=cd", ">=ab=cd", "Eb1=cd",
        "Lb1=cd", "^Eb{c1<ca!=C0bcA0=ab"};
    private static final String[] FORMULA_KINDS = {"FTT", "FTT", "FFTT", "FFTTFTT", "FFTTFTT", "FFTTFTT", "FxTFTT",
        "FxTFTT", "FFxTxTFTTFFTTTTTTFTT"};

    private final Check check = new Check();

    public static void main(String[] args) {
        ReadingEdgeTest test = new ReadingEdgeTest();
        test.isWrongAtACharacter();
        test.isWrongAtItsEnd();
        test.isWrongBehindTheWhole();
        test.oneCharacterAlone();
        test.bufferOfSixtyIsReadToItsEnd();
        test.wholeLiesAtDepthOne();
        test.partsLieOneDeeper();
        test.nothingLiesDeeperThanTwelve();
        test.laterPartsLieNoDeeper();
        test.everyCallReadsAlike();
        test.check.end("ReadingEdgeTest");
    }

    /** An object in which A, B and C are defined, taking one, two and three terms; D is not. */
    private AdjoinedSets withFunctions() {
        AdjoinedSets x = new AdjoinedSets();
        check.define(x, 0, 1, "a", 0);
        check.define(x, 1, 2, "b", 0);
        check.define(x, 2, 3, "c", 0);
        return x;
    }

    private static String starts(char kind) {
        return kind == 'T' ? TERM_STARTS : kind == 'F' ? FORMULA_STARTS : LETTERS;
    }

    private void reads(AdjoinedSets x, boolean isFormula, String text, int want) {
        if (isFormula) {
            check.truth(x, text, want);
        } else {
            check.eval(x, text, want);
        }
    }

    /** "It is WRONG at the first place .. with whose character nothing that is wanted goes on". */
    private void isWrongAtACharacter() {
        for (int k = 0; k < TERMS.length; k++) {
            isWrongAtEachOtherCharacter(false, TERMS[k], TERM_KINDS[k]);
        }
        for (int k = 0; k < FORMULAS.length; k++) {
            isWrongAtEachOtherCharacter(true, FORMULAS[k], FORMULA_KINDS[k]);
        }
    }

    private void isWrongAtEachOtherCharacter(boolean isFormula, String text, String kinds) {
        for (int place = 0; place < kinds.length(); place++) {
            AdjoinedSets x = withFunctions();
            for (char c = 33; c <= 126; c++) {
                if (starts(kinds.charAt(place)).indexOf(c) < 0) {
                    reads(x, isFormula, text.substring(0, place) + c, -100 - place);
                }
            }
            reads(withFunctions(), isFormula, text.substring(0, place) + "~" + text.substring(place + 1), -100 - place);
            reads(withFunctions(), isFormula, text.substring(0, place) + "D0" + text.substring(place), -100 - place);
        }
    }

    /** ".. or at its end when more is wanted". */
    private void isWrongAtItsEnd() {
        for (String term : TERMS) {
            AdjoinedSets x = withFunctions();
            for (int length = 0; length < term.length(); length++) {
                check.eval(x, term.substring(0, length), -100 - length);
            }
        }
        for (String formula : FORMULAS) {
            AdjoinedSets x = withFunctions();
            for (int length = 0; length < formula.length(); length++) {
                check.truth(x, formula.substring(0, length), -100 - length);
            }
        }
    }

    /** "the buffer is a term, or a formula, from its first character to its last one". */
    private void isWrongBehindTheWhole() {
        for (char c = 33; c <= 126; c++) {
            AdjoinedSets x = withFunctions();
            for (String term : TERMS) {
                check.eval(x, term + c, -100 - term.length());
            }
            for (String formula : FORMULAS) {
                check.truth(x, formula + c, -100 - formula.length());
            }
        }
    }

    /** All characters that can be typed, each as the whole buffer, with no function defined. */
    private void oneCharacterAlone() {
        for (char c = 33; c <= 126; c++) {
            AdjoinedSets x = new AdjoinedSets();
            boolean isTerm = c >= '0' && c <= '9' || LETTERS.indexOf(c) >= 0;
            boolean startsTerm = "+|&-UPT{I".indexOf(c) >= 0;
            check.eval(x, "" + c, startsTerm ? -101 : !isTerm ? -100 : c <= '9' ? c - '0' : 0);
            check.truth(x, "" + c, FORMULA_STARTS.indexOf(c) >= 0 ? -101 : -100);
        }
    }

    /** "THE BUFFER has at most 60 characters": what is read may have as many, and be wrong at each of its places. */
    private void bufferOfSixtyIsReadToItsEnd() {
        String most = "U" + joined(30);
        check.due("length of the longest", most.length(), 60);
        AdjoinedSets x = new AdjoinedSets();
        x.let(7, 6);
        check.eval(x, most, 3);
        check.eval(x, most.substring(0, 59), -159);
        check.eval(x, most.substring(0, 59) + "z", -159);
        check.eval(x, most.substring(1) + "h", -159);
        check.eval(x, "|" + joined(29) + "|h", -160);
        String formula = "!=U" + joined(14) + "U" + joined(15);
        check.due("length of the longest formula", formula.length(), 60);
        check.truth(x, formula, 0);
        check.truth(x, formula.substring(0, 59), -159);
        check.truth(x, formula.substring(0, 59) + "=", -159);
        check.truth(x, formula.substring(1) + "h", -159);
        check.truth(x, "!" + formula.substring(0, 59), -160);
    }

    private static String joined(int letters) {
        return letters == 1 ? "h" : "|" + joined(letters / 2) + joined(letters - letters / 2);
    }

    /** "The whole lies at DEPTH 1": eleven lie over what lies at depth 12. */
    private void wholeLiesAtDepthOne() {
        AdjoinedSets x = new AdjoinedSets();
        check.eval(x, "UUUUUUUUUUU0", 0);
        check.eval(x, "UUUUUUUUUUUU0", -112);
        check.truth(x, "!!!!!!!!!!=00", 1);
        check.truth(x, "!!!!!!!!!!!=00", -112);
        check.truth(x, "=UUUUUUUUUU0UUUUUUUUUU0", 1);
        check.truth(x, "=UUUUUUUUUUU00", -112);
        check.truth(x, "=0UUUUUUUUUUU0", -113);
        check.define(x, 0, 1, "UUUUUUUUUUUa", 0);
        check.define(x, 1, 1, "UUUUUUUUUUUUa", -112);
    }

    /** "each part (a function's terms too) one deeper than what it is a part of". */
    private void partsLieOneDeeper() {
        String[] texts = {"+00", "|00", "&00", "-00", "U0", "P0", "T0", "Ib00", "A0", "B00", "C000", "{b0=00", "+0U0",
            "+U00", "Ib0U0", "IbU00", "{bU0=00", "{b0=0U0", "{b0!=00", "A+00", "B0+00", "C00+00", "C0T00"};
        int[] heights = {2, 2, 2, 2, 2, 2, 2, 2, 2, 2, 2, 3, 3, 3, 3, 3, 3, 4, 4, 3, 3, 3, 3};
        int[] deepest = {1, 1, 1, 1, 1, 1, 1, 2, 1, 1, 1, 4, 3, 2, 4, 3, 3, 6, 5, 2, 3, 4, 3};
        for (int k = 0; k < texts.length; k++) {
            fitsAtMost(false, "UUUUUUUUUUUU", texts[k], heights[k], deepest[k]);
        }
        String[] formulas = {"=00", "<00", "!=00", "^=00=00", "v=00=00", ">=00=00", "Eb0=00", "Lb0=00", "EbU0=00",
            "Lb0!=00", "^=00!=00", "v!=00=00", ">=00=0U0", "=0{b0=00", "<Ib000"};
        int[] formulaHeights = {2, 2, 3, 3, 3, 3, 3, 3, 3, 4, 4, 4, 4, 4, 3};
        int[] deepestThere = {1, 1, 2, 2, 2, 2, 4, 4, 3, 5, 6, 3, 7, 6, 3};
        for (int k = 0; k < formulas.length; k++) {
            fitsAtMost(true, "!!!!!!!!!!!!", formulas[k], formulaHeights[k], deepestThere[k]);
        }
    }

    /** Put just so deep that its deepest parts lie at depth 12, a text is read; one deeper, it is wrong at the first of them. */
    private void fitsAtMost(boolean isFormula, String over, String text, int height, int firstDeepest) {
        String fits = over.substring(0, 12 - height) + text;
        check.due("length told for " + fits, readLength(withFunctions(), isFormula, fits + "~"), fits.length());
        String tooDeep = over.substring(0, 13 - height) + text;
        reads(withFunctions(), isFormula, tooDeep, -100 - (13 - height) - firstDeepest);
    }

    /** How many characters go on, as the answer for a text with a wrong end tells it. */
    private static long readLength(AdjoinedSets x, boolean isFormula, String text) {
        Check.type(x, text);
        return -100 - (isFormula ? x.truth() : x.eval());
    }

    /** "nothing that would lie deeper than 12 goes on": no character does, and neither does the end. */
    private void nothingLiesDeeperThanTwelve() {
        String eleven = "UUUUUUUUUUU";
        for (char c = 33; c <= 126; c++) {
            AdjoinedSets x = withFunctions();
            check.eval(x, eleven + "U" + c, -112);
            check.eval(x, eleven + "+0" + c, -112);
            check.eval(x, eleven + "Ib" + c, -113);
            check.truth(x, "!!!!!!!!!!!=" + c, -112);
            check.truth(x, "!!!!!!!!!!!!" + c, -112);
            check.truth(x, "!!!!!!!!!!!Eb" + c, -113);
        }
        AdjoinedSets x = withFunctions();
        check.eval(x, eleven + "U", -112);
        check.eval(x, eleven + "A", -112);
        // The letter that is bound is no part, and is wanted first.
        check.eval(x, eleven + "{", -112);
        check.eval(x, eleven + "{z", -112);
        check.eval(x, eleven + "{b", -113);
        check.eval(x, eleven + "I0", -112);
        check.truth(x, "!!!!!!!!!!!L0", -112);
        check.truth(x, "!!!!!!!!!!!Lb", -113);
        check.truth(x, "!!!!!!!!!!!!", -112);
    }

    /** Parts that stand behind a deep one lie no deeper than the first. */
    private void laterPartsLieNoDeeper() {
        AdjoinedSets x = withFunctions();
        check.eval(x, "+UUUUUUUUUU0UUUUUUUUUU0", 1);
        check.eval(x, "+UUUUUUUUUU0UUUUUUUUUUU0", -123);
        check.eval(x, "CUUUUUUUUUU0UUUUUUUUUU0UUUUUUUUUU2", 0);
        check.eval(x, "CUUUUUUUUUU0UUUUUUUUUU0UUUUUUUUUUU2", -134);
        check.eval(x, "{bUUUUUUUUUU0=UUUUUUUUU0UUUUUUUUU0", 0);
        check.eval(x, "{bUUUUUUUUUU0=UUUUUUUUU0UUUUUUUUUU0", -134);
        check.truth(x, "^!!!!!!!!!=00!!!!!!!!!=00", 0);
        check.truth(x, "^!!!!!!!!!=00!!!!!!!!!!=00", -124);
    }

    /** The buffer is read alike by truth, prove and refute, and by eval and define. */
    private void everyCallReadsAlike() {
        for (String formula : FORMULAS) {
            for (int length = 0; length < formula.length(); length++) {
                AdjoinedSets x = withFunctions();
                String wrong = formula.substring(0, length) + "~";
                check.truth(x, wrong, -100 - length);
                check.prove(x, wrong, 0, 0, 0, -100 - length);
                check.refute(x, wrong, 8, -100 - length);
                check.prove(x, formula.substring(0, length), 1, 0, 0, -100 - length);
                check.refute(x, formula.substring(0, length), 1, -100 - length);
                check.due("theorems after wrong places", x.theorems(), 0);
            }
        }
        for (String term : TERMS) {
            for (int length = 0; length < term.length(); length++) {
                AdjoinedSets x = withFunctions();
                check.define(x, 3, 3, term.substring(0, length).replace('d', 'c').replace('h', 'a') + "~", -100 - length);
                check.eval(x, "D000", -100);
            }
        }
        AdjoinedSets x = new AdjoinedSets();
        check.prove(x, "!!!!!!!!!!=00", 0, 0, 0, AdjoinedSets.NO);
        check.prove(x, "!!!!!!!!!!!=00", 0, 0, 0, -112);
        check.refute(x, "!!!!!!!!!!=00", 1, AdjoinedSets.NO);
        check.refute(x, "!!!!!!!!!!!=00", 1, -112);
    }
}
