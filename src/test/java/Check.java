/** Compares answers with those that are due, and ends a test with exit code 1 when one was wrong. */
final class Check {
    private int wrong = 0;
    private int checked = 0;

    void due(String what, long got, long want) {
        checked++;
        if (got != want) {
            wrong++;
            System.out.println(what + " answered " + got + ", due is " + want);
        }
    }

    void due(String what, boolean got, boolean want) {
        due(what, got ? 1 : 0, want ? 1 : 0);
    }

    void eval(AdjoinedSets x, String term, long want) {
        typeWhole(x, term);
        due("eval of " + term, x.eval(), want);
        due("buffer after eval of " + term, x.clear(), 0);
    }

    void truth(AdjoinedSets x, String formula, int want) {
        typeWhole(x, formula);
        due("truth of " + formula, x.truth(), want);
        due("buffer after truth of " + formula, x.clear(), 0);
    }

    void define(AdjoinedSets x, int f, int n, String body, int want) {
        typeWhole(x, body);
        due("define(" + f + ", " + n + ") of " + body, x.define(f, n), want);
        due("buffer after define of " + body, x.clear(), want == AdjoinedSets.BAD ? body.length() : 0);
    }

    void prove(AdjoinedSets x, String formula, int rule, int i, int j, int want) {
        typeWhole(x, formula);
        due("prove(" + rule + ", " + i + ", " + j + ") of " + formula, x.prove(rule, i, j), want);
        due("buffer after prove of " + formula, x.clear(), want == AdjoinedSets.BAD ? formula.length() : 0);
    }

    void refute(AdjoinedSets x, String formula, int k, int want) {
        typeWhole(x, formula);
        due("refute(" + k + ") of " + formula, x.refute(k), want);
        due("buffer after refute of " + formula, x.clear(), k < 1 || k > 8 ? formula.length() : 0);
    }

    private void typeWhole(AdjoinedSets x, String text) {
        due("characters in the buffer for " + text, type(x, text), text.length());
    }

    /** Types a text of any length, eight characters a call. */
    static int type(AdjoinedSets x, String text) {
        int answer = 0;
        for (int k = 0; k < text.length(); k += 8) {
            String piece = text.substring(k, Math.min(text.length(), k + 8));
            answer = x.type(packed(piece), piece.length());
        }
        return answer;
    }

    static long packed(String piece) {
        long characters = 0;
        for (int k = 0; k < piece.length(); k++) {
            characters = (characters << 8) | piece.charAt(k);
        }
        return characters;
    }

    void end(String test) {
        System.out.println(test + ": " + checked + " checked, " + wrong + " wrong");
        endIfWrong();
    }

    void endIfWrong() {
        if (wrong != 0) {
            System.exit(1);
        }
    }
}
