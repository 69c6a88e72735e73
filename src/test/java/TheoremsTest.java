/** Promises 8 (what prove refuses), 9 (theorems), 10 (theorem) and 11 (rests). */
public final class TheoremsTest {
    private static final int BAD = AdjoinedSets.BAD;
    private static final int FULL = AdjoinedSets.FULL;
    private static final int NO = AdjoinedSets.NO;

    public static void main(String[] args) {
        Check check = new Check();
        refusesInOrder(check);
        isFullAtSixteen(check);
        keepsTexts(check);
        tellsWhatTheyRestOn(check);
        restOnNoOthers(check);
        restOnAllInAChain(check);
        restOnWhatBothRestOn(check);
        check.end("TheoremsTest");
    }

    private static void refusesInOrder(Check check) {
        AdjoinedSets x = new AdjoinedSets();
        int[] rules = {-1, 18, Integer.MIN_VALUE, Integer.MAX_VALUE};
        for (int rule : rules) {
            check.prove(x, "=aa", rule, 0, 0, BAD);
        }
        for (int rule = 9; rule <= 12; rule++) {
            check.prove(x, "=aa", rule, 0, 0, BAD);
        }
        check.prove(x, "=aa", 1, -7, 99, 0);
        check.prove(x, "=aa", 9, 0, 1, BAD);
        check.prove(x, "=aa", 9, 1, 0, BAD);
        check.prove(x, "=aa", 9, -1, 0, BAD);
        check.prove(x, "=aa", 9, 0, -1, BAD);
        check.prove(x, "=aa", 12, 0, 1, BAD);
        check.prove(x, "=aa", 12, 1, 0, BAD);
        check.prove(x, "=aa", 12, 0, 0, NO);
        check.prove(x, "=aa", 10, 1, 0, BAD);
        check.prove(x, "=aa", 10, 0, 8, BAD);
        check.prove(x, "=aa", 10, 0, -1, BAD);
        check.prove(x, "=hh", 10, 0, 7, NO);
        check.prove(x, "=aa", 11, 1, 0, BAD);
        check.prove(x, "=aa", 11, 0, 99, NO);
        check.prove(x, "z", 9, 0, 1, BAD);
        check.prove(x, "z", 9, 0, 0, -100);
        check.prove(x, "", 1, 0, 0, -100);
        check.prove(x, "=a", 1, 0, 0, -102);
        check.prove(x, "=aa=", 1, 0, 0, -103);
        check.due("theorems", x.theorems(), 1);
    }

    private static void isFullAtSixteen(Check check) {
        AdjoinedSets x = new AdjoinedSets();
        for (int k = 0; k < 16; k++) {
            check.due("theorems before " + k, x.theorems(), k);
            check.prove(x, "=aa", 1, 0, 0, k);
        }
        check.prove(x, "=aa", 1, 0, 0, FULL);
        check.prove(x, "=ab", 1, 0, 0, FULL);
        check.prove(x, "=a", 1, 0, 0, -102);
        check.prove(x, "=aa", 18, 0, 0, BAD);
        check.prove(x, "=aa", 11, 16, 0, BAD);
        check.due("theorems", x.theorems(), 16);
        check.due("rests of 15", x.rests(15), 1 << 15);
        check.due("rests of 16", x.rests(16), BAD);
        check.due("theorem 16", x.theorem(16, 0), BAD);
    }

    private static void keepsTexts(Check check) {
        AdjoinedSets x = new AdjoinedSets();
        String longest = "!<" + joined(29) + "0";
        check.due("length of the longest", longest.length(), 60);
        String[] texts = {"=aa", "!<UTPb0", longest, ">=ab=ab"};
        int[] rules = {1, 4, 4, 0};
        for (int k = 0; k < texts.length; k++) {
            check.prove(x, texts[k], rules[k], 0, 0, k);
        }
        for (int i = 0; i < texts.length; i++) {
            for (int k = 0; k < texts[i].length(); k++) {
                check.due("theorem(" + i + ", " + k + ")", x.theorem(i, k), texts[i].charAt(k));
            }
            check.due("theorem " + i + " behind its end", x.theorem(i, texts[i].length()), BAD);
            check.due("theorem " + i + " before its start", x.theorem(i, -1), BAD);
            check.due("theorem " + i + " at 59", x.theorem(i, 59), texts[i].length() == 60 ? '0' : BAD);
            check.due("theorem " + i + " at 60", x.theorem(i, 60), BAD);
            check.due("theorem " + i + " far behind", x.theorem(i, Integer.MAX_VALUE), BAD);
            check.due("theorem " + i + " far before", x.theorem(i, Integer.MIN_VALUE), BAD);
        }
        check.due("theorem 4", x.theorem(4, 0), BAD);
        check.due("theorem -1", x.theorem(-1, 0), BAD);
        check.due("theorem far away", x.theorem(Integer.MAX_VALUE, Integer.MIN_VALUE), BAD);
        check.due("theorems", x.theorems(), 4);
    }

    /** "those that its rule named": not those whose numbers the rule does not look at, or looks at as letters. */
    private static void restOnNoOthers(Check check) {
        AdjoinedSets x = new AdjoinedSets();
        check.prove(x, "><bc<bc", 0, 0, 0, 0);
        check.prove(x, "=aa", 1, 0, 0, 1);
        check.prove(x, "!<a0", 4, 1, 0, 2);
        check.prove(x, "Lbc<bc", 11, 0, 1, 3);
        check.prove(x, "><0c<0c", 10, 0, 1, 4);
        check.prove(x, ">=aav=aa=bb", 0, 3, 4, 5);
        check.prove(x, "v=aa=bb", 9, 1, 5, 6);
        check.prove(x, "v=00=bb", 10, 6, 0, 7);
        int[] rests = {1, 2, 4, 9, 17, 32, 98, 226};
        for (int i = 0; i < rests.length; i++) {
            check.due("rests of " + i, x.rests(i), rests[i]);
        }
    }

    /** ".. what they rest on, and itself": all sixteen at last. */
    private static void restOnAllInAChain(Check check) {
        AdjoinedSets x = new AdjoinedSets();
        check.due("rests of 0 before", x.rests(0), BAD);
        check.prove(x, "=aa", 1, 0, 0, 0);
        for (int i = 1; i < 16; i++) {
            check.prove(x, "=aa", 10, i - 1, 0, i);
            check.due("rests of " + (i + 1) + " before", x.rests(i + 1), BAD);
        }
        for (int i = 0; i < 16; i++) {
            check.due("rests of " + i, x.rests(i), (2 << i) - 1);
        }
        check.due("rests of 16", x.rests(16), BAD);
        check.due("rests of 32", x.rests(32), BAD);
        check.due("rests of -1", x.rests(-1), BAD);
        check.due("rests of the least", x.rests(Integer.MIN_VALUE), BAD);
    }

    /** The same, where both theorems that a rule names rest on a third one. */
    private static void restOnWhatBothRestOn(Check check) {
        AdjoinedSets x = new AdjoinedSets();
        check.prove(x, "=aa", 1, 0, 0, 0);
        check.prove(x, ">=aav=aa=bb", 0, 0, 0, 1);
        check.prove(x, "v=aa=bb", 9, 0, 1, 2);
        check.prove(x, ">=aa>v=aa=bb^=aav=aa=bb", 0, 0, 0, 3);
        check.prove(x, ">v=aa=bb^=aav=aa=bb", 9, 0, 3, 4);
        check.prove(x, "^=aav=aa=bb", 9, 2, 4, 5);
        check.prove(x, "v<ab!<ab", 0, 0, 0, 6);
        check.prove(x, "v<0b!<0b", 10, 6, 0, 7);
        check.prove(x, ">v<ab!<abv<+acb!<+acb", 0, 0, 0, 8);
        check.prove(x, ">v<ab!<abv<+acb!<+acb", 10, 8, 7, 9);
        check.prove(x, "v<ab!<ab", 12, 7, 9, 10);
        int[] rests = {1, 2, 7, 8, 25, 63, 64, 192, 256, 768, 1984};
        for (int i = 0; i < rests.length; i++) {
            check.due("rests of " + i, x.rests(i), rests[i]);
        }
    }

    private static String joined(int letters) {
        return letters == 1 ? "h" : "|" + joined(letters / 2) + joined(letters - letters / 2);
    }

    private static void tellsWhatTheyRestOn(Check check) {
        AdjoinedSets x = new AdjoinedSets();
        check.prove(x, "=bb", 1, 0, 0, 0);
        check.prove(x, ">=bb>=aa=bb", 0, 0, 0, 1);
        check.prove(x, ">=aa=bb", 9, 0, 1, 2);
        check.prove(x, ">=cc=bb", 10, 2, 0, 3);
        check.prove(x, "><ab<ab", 0, 0, 0, 4);
        check.prove(x, "Lab<ab", 11, 4, 0, 5);
        check.prove(x, "v<ab!<ab", 0, 0, 1, 6);
        check.prove(x, "v<0b!<0b", 10, 6, 0, 7);
        check.prove(x, ">v<ab!<abv<+acb!<+acb", 0, 0, 0, 8);
        check.prove(x, "v<ab!<ab", 12, 7, 8, 9);
        check.prove(x, "v<ab!<ab", 10, 9, 7, 10);
        int[] rests = {1, 2, 7, 15, 16, 48, 64, 192, 256, 960, 1984};
        for (int i = 0; i < rests.length; i++) {
            check.due("rests of " + i, x.rests(i), rests[i]);
        }
        check.due("rests of 11", x.rests(11), BAD);
        check.due("rests of -1", x.rests(-1), BAD);
        check.due("rests far away", x.rests(Integer.MAX_VALUE), BAD);
    }
}
