/** Promises 13 (size) and 14 (rank). */
public final class SizeAndRankTest {
    private static final long MOST = (1L << 62) - 1;

    public static void main(String[] args) {
        Check check = new Check();
        AdjoinedSets x = new AdjoinedSets();
        check.due("size of 0", x.size(0), 0);
        check.due("size of 11", x.size(11), 3);
        check.due("size of 2^61", x.size(1L << 61), 1);
        check.due("size of the greatest", x.size(MOST), 62);
        int[] ranks = {0, 1, 2, 2, 3, 3, 3, 3, 3, 3, 3, 3, 3, 3, 3, 3, 4};
        for (int code = 0; code < ranks.length; code++) {
            check.due("rank of " + code, x.rank(code), ranks[code]);
        }
        check.due("rank of 2^4 - 1", x.rank((1L << 4) - 1), 3);
        check.due("rank of 2^16 - 1", x.rank((1L << 16) - 1), 4);
        check.due("rank of 2^16", x.rank(1L << 16), 5);
        check.due("rank of 2^15", x.rank(1L << 15), 4);
        check.due("rank of the greatest", x.rank(MOST), 5);
        countsEachMember(check, x);
        ranksChangeThere(check, x);
        long[] wrong = {-1, MOST + 1, Long.MIN_VALUE, Long.MAX_VALUE};
        for (long code : wrong) {
            check.due("size of " + code, x.size(code), AdjoinedSets.BAD);
            check.due("rank of " + code, x.rank(code), AdjoinedSets.BAD);
        }
        check.end("SizeAndRankTest");
    }

    /** "How many members the set with a code has", "one more than the greatest of its members". */
    private static void countsEachMember(Check check, AdjoinedSets x) {
        for (int c = 0; c <= 61; c++) {
            check.due("size of 2^" + c, x.size(1L << c), 1);
            check.due("size of all but 2^" + c, x.size(MOST - (1L << c)), 61);
            check.due("size of all less than 2^" + c, x.size((1L << c) - 1), c);
            check.due("rank of 2^" + c, x.rank(1L << c), x.rank(c) + 1);
        }
    }

    /** The first and the last code of each rank. */
    private static void ranksChangeThere(Check check, AdjoinedSets x) {
        long[] first = {0, 1, 2, 4, 16, 65536, MOST + 1};
        for (int rank = 0; rank < 6; rank++) {
            check.due("rank of " + first[rank], x.rank(first[rank]), rank);
            check.due("rank of " + (first[rank + 1] - 1), x.rank(first[rank + 1] - 1), rank);
        }
        // The greatest rank need not be that of the greatest or the least member.
        check.due("rank of 2^4 + 2^16 + 2^17", x.rank(16 + (1L << 16) + (1L << 17)), 5);
        check.due("rank of 2^0 + 2^2", x.rank(5), 3);
    }
}
