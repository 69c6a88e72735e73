/** Promises 2 (type) and 3 (clear). */
public final class TypeAndClearTest {
    public static void main(String[] args) {
        Check check = new Check();
        comesBehindInOrder(check);
        lowestBytesAlone(check);
        refusesWrongInputs(check);
        isFullAtSixty(check);
        fillsUpWithEachNumber(check);
        check.end("TypeAndClearTest");
    }

    private static void comesBehindInOrder(Check check) {
        AdjoinedSets x = new AdjoinedSets();
        check.due("type of -7", x.type(Check.packed("-7"), 2), 2);
        check.due("type of +12 behind it", x.type(Check.packed("+12"), 3), 5);
        check.due("eval of -7+12", x.eval(), 2);
        for (int n = 1; n <= 8; n++) {
            check.due("type of " + n, x.type(Check.packed("UUUUUUUU".substring(0, n)), n), n);
            check.due("clear of " + n, x.clear(), n);
        }
        check.due("clear again", x.clear(), 0);
    }

    private static void lowestBytesAlone(Check check) {
        AdjoinedSets x = new AdjoinedSets();
        check.due("higher bytes do not count", x.type(Check.packed("zzzzzz") << 16 | Check.packed("P2"), 2), 2);
        check.due("eval of P2", x.eval(), 5);
        check.due("higher bytes may be wrong ones", x.type(0xFF00L << 8 | '4', 1), 1);
        check.due("eval of 4", x.eval(), 4);
        check.due("a negative number", x.type(-256L | '4', 1), 1);
        check.due("eval of 4 again", x.eval(), 4);
    }

    private static void refusesWrongInputs(Check check) {
        AdjoinedSets x = new AdjoinedSets();
        Check.type(x, "+1");
        int[] lengths = {0, -1, 9, 64, Integer.MIN_VALUE, Integer.MAX_VALUE};
        for (int n : lengths) {
            check.due("type with n " + n, x.type(Check.packed("33333333"), n), AdjoinedSets.BAD);
        }
        int[] characters = {0, 1, 32, 127, 128, 200, 255};
        for (int c : characters) {
            check.due("type of character " + c, x.type(c, 1), AdjoinedSets.BAD);
            check.due("type of character " + c + " first", x.type((long) c << 8 | '3', 2), AdjoinedSets.BAD);
            check.due("type of character " + c + " last", x.type('3' << 8 | c, 2), AdjoinedSets.BAD);
            check.due("type of character " + c + " as the eighth",
                    x.type((long) c << 56 | Check.packed("3333333"), 8), AdjoinedSets.BAD);
        }
        check.due("the buffer stays", x.type('4', 1), 3);
        check.due("eval of +14", x.eval(), 17);
        eachPlaceIsLookedAt(check);
    }

    /** "BAD when .. one is not 33 .. 126": each of the n, at each place; and all from 33 to 126 are typed. */
    private static void eachPlaceIsLookedAt(Check check) {
        int[] wrong = {0, 32, 127, 128, 255};
        for (int n = 1; n <= 8; n++) {
            AdjoinedSets x = new AdjoinedSets();
            for (int place = 0; place < n; place++) {
                long others = Check.packed("33333333") & ~(255L << (8 * place));
                for (int c : wrong) {
                    check.due("character " + c + " at " + place + " of " + n, x.type(others | (long) c << (8 * place), n), AdjoinedSets.BAD);
                }
            }
            check.due("the buffer stays empty", x.clear(), 0);
        }
        for (int c = 0; c <= 255; c++) {
            check.due("type of " + c, new AdjoinedSets().type(c, 1), c >= 33 && c <= 126 ? 1 : AdjoinedSets.BAD);
        }
    }

    private static void isFullAtSixty(Check check) {
        AdjoinedSets x = new AdjoinedSets();
        for (int k = 1; k <= 7; k++) {
            check.due("type of eight", x.type(Check.packed("UUUUUUUU"), 8), 8 * k);
        }
        check.due("five too many", x.type(Check.packed("UUUUU"), 5), AdjoinedSets.FULL);
        check.due("BAD comes before FULL", x.type(Check.packed("UUUU "), 5), AdjoinedSets.BAD);
        check.due("type up to 60", x.type(Check.packed("UUUU"), 4), 60);
        check.due("one more", x.type('U', 1), AdjoinedSets.FULL);
        check.due("clear of 60", x.clear(), 60);
        check.due("type after clear", x.type('U', 1), 1);
    }

    /** "FULL when there would be more than 60": 60 with each n, and 61. */
    private static void fillsUpWithEachNumber(Check check) {
        for (int n = 1; n <= 8; n++) {
            AdjoinedSets x = new AdjoinedSets();
            Check.type(x, "U".repeat(60 - n));
            check.due("type of " + n + " up to 60", x.type(Check.packed("U".repeat(n)), n), 60);
            check.due("clear of 60", x.clear(), 60);
            Check.type(x, "U".repeat(61 - n));
            check.due("type of " + n + " up to 61", x.type(Check.packed("U".repeat(n)), n), AdjoinedSets.FULL);
            check.due("clear of " + (61 - n), x.clear(), 61 - n);
            check.due("type of " + n + " behind nothing", x.type(Check.packed("U".repeat(n)), n), n);
        }
    }
}
