/**
 * The state that each call leaves: whether the buffer is empty then, and that nothing else changes but what the call is
 * for. Each scenario starts with values, a function and theorems, and with a term in the buffer.
 */
public final class StateEdgeTest {
    private static final long MOST = (1L << 62) - 1;
    private static final int BAD = AdjoinedSets.BAD;
    private static final int FULL = AdjoinedSets.FULL;
    private static final int OUT = AdjoinedSets.OUT;
    private static final int NO = AdjoinedSets.NO;
    // h is 10 in each scenario.
    private static final String TERM = "|9h";
    private static final long TERM_IS = 11;

    private final Check check = new Check();

    public static void main(String[] args) {
        StateEdgeTest test = new StateEdgeTest();
        test.typeLeavesTheBufferWhenItRefuses();
        test.letLeavesTheBuffer();
        test.questionsLeaveTheBuffer();
        test.clearEmptiesTheBufferAlone();
        test.evalEmptiesTheBuffer();
        test.truthEmptiesTheBuffer();
        test.defineEmptiesTheBufferButForBad();
        test.proveEmptiesTheBufferButForBad();
        test.fullProveEmptiesTheBuffer();
        test.refuteEmptiesTheBufferButForWrongBounds();
        test.objectsAreApart();
        test.lastsFor512Calls();
        test.check.end("StateEdgeTest");
    }

    private AdjoinedSets made() {
        AdjoinedSets x = new AdjoinedSets();
        for (int letter = 0; letter < 8; letter++) {
            check.due("let", x.let(letter, 3 + letter), true);
        }
        check.define(x, 0, 2, "-ba", 0);
        check.prove(x, "><ab<ab", 0, 0, 0, 0);
        check.prove(x, "Lab<ab", 11, 0, 0, 1);
        return x;
    }

    private AdjoinedSets madeWith(String text) {
        AdjoinedSets x = made();
        check.due("type", Check.type(x, text), text.length());
        return x;
    }

    /** Nothing but the buffer may have changed. */
    private void restStays(String call, AdjoinedSets x) {
        for (int letter = 0; letter < 8; letter++) {
            check.eval(x, "" + (char) ('a' + letter), 3 + letter);
        }
        check.eval(x, "A19", 8);
        check.eval(x, "B19", -100);
        check.eval(x, "C19", -100);
        check.eval(x, "D19", -100);
        check.due("theorems after " + call, x.theorems(), 2);
        check.due("rests of 0 after " + call, x.rests(0), 1);
        check.due("rests of 1 after " + call, x.rests(1), 3);
        check.due("rests of 2 after " + call, x.rests(2), BAD);
        textIs(x, 0, "><ab<ab");
        textIs(x, 1, "Lab<ab");
        textIs(x, 2, "");
    }

    private void textIs(AdjoinedSets x, int i, String text) {
        for (int k = 0; k < text.length(); k++) {
            check.due("theorem(" + i + ", " + k + ")", x.theorem(i, k), text.charAt(k));
        }
        check.due("theorem(" + i + ", " + text.length() + ")", x.theorem(i, text.length()), BAD);
    }

    /** The term that was typed is there still, whole and alone. */
    private void staysWith(String call, AdjoinedSets x, long got, long want) {
        check.due(call, got, want);
        check.due("the term in the buffer after " + call, x.eval(), TERM_IS);
        restStays(call, x);
    }

    private void isEmptyAfter(String call, AdjoinedSets x, long got, long want) {
        check.due(call, got, want);
        check.due("buffer after " + call, x.clear(), 0);
        restStays(call, x);
    }

    /** Promise 2: "BAD when ..; FULL when ..": the buffer is what it was. */
    private void typeLeavesTheBufferWhenItRefuses() {
        int[] numbers = {0, 9, -1, Integer.MIN_VALUE, Integer.MAX_VALUE};
        for (int n : numbers) {
            AdjoinedSets x = madeWith(TERM);
            staysWith("type with n " + n, x, x.type('0', n), BAD);
        }
        int[] characters = {0, 32, 127, 128, 255};
        for (int c : characters) {
            AdjoinedSets x = madeWith(TERM);
            staysWith("type of 0 and " + c, x, x.type('0' << 8 | c, 2), BAD);
            x = madeWith(TERM);
            staysWith("type of " + c + " and 0", x, x.type(c << 8 | '0', 2), BAD);
        }
        AdjoinedSets x = madeWith("|h" + joined(29));
        check.due("type of two at 59", x.type('0' << 8 | '0', 2), FULL);
        check.due("the term of 59 characters", x.eval(), 10);
        restStays("type", x);
        x = madeWith("U|h" + joined(29));
        check.due("type of one at 60", x.type('0', 1), FULL);
        check.due("the term of 60 characters", x.eval(), 3);
        restStays("type", x);
    }

    private static String joined(int letters) {
        return letters == 1 ? "h" : "|" + joined(letters / 2) + joined(letters - letters / 2);
    }

    /** Promise 4: the values alone change, and none when it answers false. */
    private void letLeavesTheBuffer() {
        AdjoinedSets x = madeWith(TERM);
        staysWith("let of letter -1", x, x.let(-1, 0) ? 1 : 0, 0);
        x = madeWith(TERM);
        staysWith("let of letter 8", x, x.let(8, 0) ? 1 : 0, 0);
        x = madeWith(TERM);
        staysWith("let of code -1", x, x.let(7, -1) ? 1 : 0, 0);
        x = madeWith(TERM);
        staysWith("let of code 2^62", x, x.let(7, MOST + 1) ? 1 : 0, 0);
        x = madeWith(TERM);
        staysWith("let of the value itself", x, x.let(6, 9) ? 1 : 0, 1);
        x = madeWith(TERM);
        check.due("let of h", x.let(7, 4), true);
        check.due("the term with the new value", x.eval(), 13);
    }

    /** Promises 9, 10, 11, 13 and 14 ask, and change nothing. */
    private void questionsLeaveTheBuffer() {
        AdjoinedSets x = madeWith(TERM);
        check.due("theorem", x.theorem(0, 0), '>');
        check.due("theorem that is not there", x.theorem(2, 0), BAD);
        check.due("rests", x.rests(1), 3);
        check.due("rests of none", x.rests(2), BAD);
        check.due("size", x.size(MOST), 62);
        check.due("size of none", x.size(-1), BAD);
        check.due("rank", x.rank(MOST), 5);
        check.due("rank of none", x.rank(MOST + 1), BAD);
        staysWith("theorems", x, x.theorems(), 2);
    }

    /** Promise 3: "The buffer is empty then: how many it had." */
    private void clearEmptiesTheBufferAlone() {
        AdjoinedSets x = madeWith(TERM);
        isEmptyAfter("clear", x, x.clear(), 3);
        x = made();
        isEmptyAfter("clear of an empty buffer", x, x.clear(), 0);
        x = madeWith("~~~");
        check.due("clear of what cannot be read", x.clear(), 3);
        check.eval(x, TERM, TERM_IS);
    }

    /** Promise 5: "The buffer is empty then", whatever it answers. */
    private void evalEmptiesTheBuffer() {
        AdjoinedSets x = madeWith(TERM);
        isEmptyAfter("eval", x, x.eval(), TERM_IS);
        x = madeWith("PPPP3");
        isEmptyAfter("eval that is OUT", x, x.eval(), OUT);
        x = madeWith("IhPP3IgPP3IfPP3Ph");
        isEmptyAfter("eval that costs too much", x, x.eval(), OUT);
        x = madeWith("|9hh");
        isEmptyAfter("eval of what is wrong", x, x.eval(), -103);
        x = madeWith("|9");
        isEmptyAfter("eval of what is wrong at its end", x, x.eval(), -102);
        x = made();
        isEmptyAfter("eval of nothing", x, x.eval(), -100);
    }

    /** Promise 6: "The buffer is empty then", whatever it answers. */
    private void truthEmptiesTheBuffer() {
        AdjoinedSets x = madeWith("Ea7=a2");
        isEmptyAfter("truth", x, x.truth(), 1);
        x = madeWith("La7=a2");
        isEmptyAfter("truth of what does not hold", x, x.truth(), 0);
        x = madeWith("La7=hPPPP3");
        isEmptyAfter("truth that is OUT", x, x.truth(), OUT);
        x = madeWith("LhPP3LgPP3LfPP3=00");
        isEmptyAfter("truth that costs too much", x, x.truth(), OUT);
        x = madeWith(TERM);
        isEmptyAfter("truth of a term", x, x.truth(), -100);
        x = madeWith("=0");
        isEmptyAfter("truth of what is wrong at its end", x, x.truth(), -102);
    }

    /** Promise 7: "The buffer is empty then, but for BAD". */
    private void defineEmptiesTheBufferButForBad() {
        int[][] refused = {{-1, 1}, {4, 1}, {0, 1}, {0, 2}, {1, 0}, {1, 4}, {1, -1}, {Integer.MIN_VALUE, 1}, {Integer.MAX_VALUE, 1},
            {1, Integer.MIN_VALUE}, {1, Integer.MAX_VALUE}};
        for (int[] numbers : refused) {
            AdjoinedSets x = madeWith(TERM);
            staysWith("define(" + numbers[0] + ", " + numbers[1] + ")", x, x.define(numbers[0], numbers[1]), BAD);
        }
        String[] wrong = {"", "+a", "+ab", "Ba", "=aa", "+aaa"};
        int[] places = {0, 2, 2, 1, 0, 3};
        for (int k = 0; k < wrong.length; k++) {
            AdjoinedSets x = madeWith(wrong[k]);
            isEmptyAfter("define of " + wrong[k], x, x.define(1, 1), -100 - places[k]);
        }
        AdjoinedSets x = madeWith("Ua");
        check.due("define", x.define(1, 1), 0);
        check.due("buffer after define", x.clear(), 0);
        check.eval(x, "B9", 3);
        check.eval(x, "A19", 8);
        check.due("theorems after define", x.theorems(), 2);
        check.eval(x, "h", 10);
    }

    /** Promise 8: "The buffer is empty then, but for BAD". */
    private void proveEmptiesTheBufferButForBad() {
        int[][] refused = {{-1, 0, 0}, {18, 0, 0}, {Integer.MIN_VALUE, 0, 0}, {Integer.MAX_VALUE, 0, 0}, {9, 2, 0}, {9, 0, 2},
            {9, -1, 0}, {9, 0, -1}, {10, 2, 0}, {10, -1, 0}, {10, 0, 8}, {10, 0, -1}, {11, 2, 0}, {11, -1, 0}, {12, 2, 0}, {12, 0, 2},
            {12, -1, 0}, {12, 0, -1}, {12, 16, 16}};
        for (int[] numbers : refused) {
            AdjoinedSets x = madeWith(TERM);
            String call = "prove(" + numbers[0] + ", " + numbers[1] + ", " + numbers[2] + ")";
            staysWith(call, x, x.prove(numbers[0], numbers[1], numbers[2]), BAD);
        }
        for (int rule = 0; rule <= 17; rule++) {
            AdjoinedSets x = madeWith("=ah");
            isEmptyAfter("prove by " + rule + " that is not allowed", x, x.prove(rule, 0, 0), NO);
            x = madeWith(TERM);
            isEmptyAfter("prove by " + rule + " of a term", x, x.prove(rule, 0, 0), -100);
            x = madeWith("=a");
            isEmptyAfter("prove by " + rule + " of what is wrong at its end", x, x.prove(rule, 0, 0), -102);
        }
        AdjoinedSets x = madeWith("=hh");
        check.due("prove", x.prove(1, 0, 0), 2);
        check.due("buffer after prove", x.clear(), 0);
        textIs(x, 0, "><ab<ab");
        textIs(x, 1, "Lab<ab");
        textIs(x, 2, "=hh");
        check.due("rests of 1", x.rests(1), 3);
        check.due("rests of 2", x.rests(2), 4);
        check.eval(x, "h", 10);
        check.eval(x, "A19", 8);
    }

    /** The same, for FULL: the theorems that are there stay. */
    private void fullProveEmptiesTheBuffer() {
        AdjoinedSets x = made();
        for (int k = 2; k < 16; k++) {
            check.prove(x, "=hh", 1, 0, 0, k);
        }
        Check.type(x, "=gg");
        check.due("prove of a seventeenth", x.prove(1, 0, 0), FULL);
        check.due("buffer after FULL", x.clear(), 0);
        check.due("theorems after FULL", x.theorems(), 16);
        textIs(x, 0, "><ab<ab");
        textIs(x, 15, "=hh");
        textIs(x, 16, "");
        Check.type(x, TERM);
        check.due("prove by a wrong rule", x.prove(18, 0, 0), BAD);
        check.due("the term in the buffer", x.eval(), TERM_IS);
    }

    /** Promise 12: "The buffer is empty then, but when k is not 1 .. 8". */
    private void refuteEmptiesTheBufferButForWrongBounds() {
        int[] bounds = {0, 9, -1, Integer.MIN_VALUE, Integer.MAX_VALUE};
        for (int k : bounds) {
            AdjoinedSets x = madeWith(TERM);
            staysWith("refute(" + k + ")", x, x.refute(k), BAD);
        }
        String[] texts = {"=00", "=01", "!=h5", "=hg", "=hh", "^=ab=cc", TERM, "=0", "", "=hPPPP3", "!=a3"};
        int[] answers = {NO, 0, 64 * 5, 1, NO, BAD, -100, -102, -100, NO, 64 * 3};
        for (int k = 0; k < texts.length; k++) {
            AdjoinedSets x = madeWith(texts[k]);
            isEmptyAfter("refute of " + texts[k], x, x.refute(8), answers[k]);
        }
    }

    /** Two objects have nothing in common, also when their calls take turns. */
    private void objectsAreApart() {
        AdjoinedSets x = made();
        AdjoinedSets y = new AdjoinedSets();
        Check.type(x, "|9");
        Check.type(y, "=cc");
        check.due("type behind the first", x.type('h', 1), 3);
        check.due("prove in the second", y.prove(1, 0, 0), 0);
        check.due("let in the second", y.let(7, 1), true);
        check.define(y, 1, 1, "a", 0);
        check.due("eval in the first", x.eval(), TERM_IS);
        restStays("calls of another object", x);
        check.due("theorems of the second", y.theorems(), 1);
        check.eval(y, "h", 1);
        check.eval(y, "A00", -100);
    }

    /** "An object is used for at most 512 calls": the last of them answers like the first. */
    private void lastsFor512Calls() {
        AdjoinedSets x = new AdjoinedSets();
        for (int k = 0; k < 256; k++) {
            check.due("type " + k, x.type(Check.packed("P2"), 2), 2);
            check.due("eval " + k, x.eval(), 5);
        }
        AdjoinedSets y = new AdjoinedSets();
        for (int k = 0; k < 256; k++) {
            check.due("type " + k, y.type(Check.packed("=aa"), 3), 3);
            check.due("prove " + k, y.prove(1, 0, 0), k < 16 ? k : FULL);
        }
    }
}
