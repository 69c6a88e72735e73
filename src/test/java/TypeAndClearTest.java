/** Promises 2 (type) and 3 (clear). */
public final class TypeAndClearTest {
    public static void main(String[] args) {
        Check check = new Check();
        comesBehindInOrder(check);
        lowestBytesAlone(check);
        refusesWrongInputs(check);
        isFullAtSixty(check);
        check.end("TypeAndClearTest");
    }

    private static void comesBehindInOrder(Check check) {
        AdjoinedSets x = new AdjoinedSets();
        check.due("type of -7", x.type(Check.packed("-7"), 2), 2);
        check.due("type of +12 behind it", x.type(Check.packed("+12"), 3), 5);
        check.due("eval of -7+12", x.eval(), 2);
        for (int n = 1; n <= 8; n++) {
            check.due("type of " + n, x.type(Check.packed("UUUUUUUU".substring(0, n)), n), n);
            check.due("clear of " + n, x.clear(), n);
        }
        check.due("clear again", x.clear(), 0);
    }

    private static void lowestBytesAlone(Check check) {
        AdjoinedSets x = new AdjoinedSets();
        check.due("higher bytes do not count", x.type(Check.packed("zzzzzz") << 16 | Check.packed("P2"), 2), 2);
        check.due("eval of P2", x.eval(), 5);
        check.due("higher bytes may be wrong ones", x.type(0xFF00L << 8 | '4', 1), 1);
        check.due("eval of 4", x.eval(), 4);
        check.due("a negative number", x.type(-256L | '4', 1), 1);
        check.due("eval of 4 again", x.eval(), 4);
    }

    private static void refusesWrongInputs(Check check) {
        AdjoinedSets x = new AdjoinedSets();
        Check.type(x, "+1");
        int[] lengths = {0, -1, 9, 64, Integer.MIN_VALUE, Integer.MAX_VALUE};
        for (int n : lengths) {
            check.due("type with n " + n, x.type(Check.packed("33333333"), n), AdjoinedSets.BAD);
        }
        int[] characters = {0, 1, 32, 127, 128, 200, 255};
        for (int c : characters) {
            check.due("type of character " + c, x.type(c, 1), AdjoinedSets.BAD);
            check.due("type of character " + c + " first", x.type((long) c << 8 | '3', 2), AdjoinedSets.BAD);
            check.due("type of character " + c + " last", x.type('3' << 8 | c, 2), AdjoinedSets.BAD);
            check.due("type of character " + c + " as the eighth",
                    x.type((long) c << 56 | Check.packed("3333333"), 8), AdjoinedSets.BAD);
        }
        check.due("the buffer stays", x.type('4', 1), 3);
        check.due("eval of +14", x.eval(), 17);
        check.due("type of 33", x.type(33, 1), 1);
        check.due("type of 126", x.type(126, 1), 2);
    }

    private static void isFullAtSixty(Check check) {
        AdjoinedSets x = new AdjoinedSets();
        for (int k = 1; k <= 7; k++) {
            check.due("type of eight", x.type(Check.packed("UUUUUUUU"), 8), 8 * k);
        }
        check.due("five too many", x.type(Check.packed("UUUUU"), 5), AdjoinedSets.FULL);
        check.due("BAD comes before FULL", x.type(Check.packed("UUUU "), 5), AdjoinedSets.BAD);
        check.due("type up to 60", x.type(Check.packed("UUUU"), 4), 60);
        check.due("one more", x.type('U', 1), AdjoinedSets.FULL);
        check.due("clear of 60", x.clear(), 60);
        check.due("type after clear", x.type('U', 1), 1);
    }
}
