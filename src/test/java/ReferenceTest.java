import java.util.Random;

/** All promises: many runs of calls, made up from fixed seeds, on the program and on the model side by side. */
public final class ReferenceTest {
    private static final int RUNS = 800;
    private static final int MOST_CALLS = 512;
    // More than the buffer takes, so that it is FULL now and then.
    private static final int MOST_TYPED = 68;
    // The last act and what comes behind it must keep to MOST_CALLS: one act makes 60 at most (three texts, each in up
    // to 17 pieces and with three calls more), comparing the theorems 109.
    private static final int CALLS_BEFORE_LAST_ACT = 330;

    private final Check check = new Check();
    private final Random random;
    private final int run;
    private final AdjoinedSets program = new AdjoinedSets();
    private final Model model = new Model();
    private final int[] takes = new int[4];
    private String typed = "";
    private char ownName = 0;
    private int ownTakes = 0;
    private int calls = 0;

    private ReferenceTest(int run) {
        this.run = run;
        this.random = new Random(run);
    }

    public static void main(String[] args) {
        int runs = args.length > 0 ? Integer.parseInt(args[0]) : RUNS;
        for (int run = 0; run < runs; run++) {
            ReferenceTest test = new ReferenceTest(run);
            while (test.calls < CALLS_BEFORE_LAST_ACT) {
                test.act();
            }
            test.compareTheorems();
            test.check.due("calls on one object", test.calls <= MOST_CALLS, true);
            test.check.endIfWrong();
        }
        System.out.println("ReferenceTest: " + runs + " runs are alike");
    }

    private void same(String call, long got, long want) {
        calls++;
        check.due("run " + run + ": " + call + " with " + typed, got, want);
    }

    /** Most often into a cleared buffer; else behind what an earlier call has left there. */
    private void type(String text) {
        if (random.nextInt(10) != 0) {
            same("clear()", program.clear(), model.clear());
            typed = "";
        }
        int most = random.nextInt(4) == 0 ? 4 + random.nextInt(4) : 8;
        int end = Math.min(text.length(), MOST_TYPED);
        for (int k = 0; k < end; k += most) {
            String piece = text.substring(k, Math.min(end, k + most));
            typed += piece;
            same("type", program.type(Check.packed(piece), piece.length()), model.type(Check.packed(piece), piece.length()));
        }
        if (random.nextInt(4) == 0) {
            refusedCall();
        }
    }

    /** A call that answers BAD or false, and must leave all as it was, the buffer too. */
    private void refusedCall() {
        switch (random.nextInt(8)) {
            case 0 -> same("type of nothing", program.type('0', 0), model.type('0', 0));
            case 1 -> same("type of a space", program.type(' ', 1), model.type(' ', 1));
            case 2 -> same("let of no letter", program.let(8, 1) ? 1 : 0, model.let(8, 1) ? 1 : 0);
            case 3 -> same("let of no set", program.let(0, -1) ? 1 : 0, model.let(0, -1) ? 1 : 0);
            case 4 -> same("define of no function", program.define(4, 1), model.define(4, 1));
            case 5 -> same("define with no terms", program.define(0, 0), model.define(0, 0));
            case 6 -> same("prove by no rule", program.prove(18, 0, 0), model.prove(18, 0, 0));
            default -> same("refute below none", program.refute(0), model.refute(0));
        }
    }

    private void act() {
        switch (random.nextInt(12)) {
            case 0 -> let();
            case 1, 2 -> eval();
            case 3, 4 -> truth();
            case 5 -> define();
            case 6 -> refute();
            case 7 -> wrongInputs();
            default -> proveBy(random.nextInt(18));
        }
    }

    private void let() {
        int x = random.nextInt(8);
        long code = random.nextInt(3) == 0 ? random.nextInt(70) : random.nextLong() >>> random.nextInt(64);
        same("let(" + x + ", " + code + ")", program.let(x, code) ? 1 : 0, model.let(x, code) ? 1 : 0);
        same("size", program.size(code), model.size(code));
        same("rank", program.rank(code), model.rank(code));
    }

    private void eval() {
        type(spoiled(term(random.nextInt(7))));
        same("eval()", program.eval(), model.eval());
    }

    private void truth() {
        type(spoiled(formula(random.nextInt(7))));
        same("truth()", program.truth(), model.truth());
    }

    private void define() {
        int f = random.nextInt(4);
        int n = 1 + random.nextInt(3);
        ownName = (char) ('A' + f);
        ownTakes = n;
        type(spoiled(random.nextInt(4) == 0 ? term(random.nextInt(6)) : body(1 + random.nextInt(5), "abc".substring(0, n), "")));
        ownName = 0;
        define(f, n);
    }

    private void define(int f, int n) {
        int answer = program.define(f, n);
        same("define(" + f + ", " + n + ")", answer, model.define(f, n));
        if (answer == 0) {
            takes[f] = n;
        }
    }

    private void refute() {
        String text = formula(random.nextInt(6));
        // Most formulas have too many letters.
        if (random.nextInt(4) != 0) {
            text = text.replaceAll("[c-h]", random.nextBoolean() ? "a" : "b");
        }
        type(spoiled(text));
        int k = random.nextInt(11) - 1;
        same("refute(" + k + ")", program.refute(k), model.refute(k));
    }

    private void wrongInputs() {
        long characters = random.nextLong();
        int n = random.nextInt(12) - 1;
        same("type(" + characters + ", " + n + ")", program.type(characters, n), model.type(characters, n));
        int f = random.nextInt(8) - 2;
        int k = random.nextInt(7) - 2;
        define(f, k);
        same("let", program.let(f, 5) ? 1 : 0, model.let(f, 5) ? 1 : 0);
        prove(random.nextInt(22) - 2, random.nextInt(20) - 2, random.nextInt(20) - 2);
    }

    // Proofs

    private int prove(int rule, int i, int j) {
        int answer = program.prove(rule, i, j);
        same("prove(" + rule + ", " + i + ", " + j + ")", answer, model.prove(rule, i, j));
        return answer;
    }

    private int prove(String text, int rule, int i, int j) {
        type(text);
        return prove(rule, i, j);
    }

    private void proveBy(int rule) {
        int count = model.theorems();
        int i = count == 0 ? 0 : random.nextInt(count);
        String s = term(random.nextInt(3));
        String t = random.nextInt(5) == 0 ? s : term(random.nextInt(3));
        String u = term(random.nextInt(3));
        char x = letter();
        String f = formula(random.nextInt(3));
        switch (rule) {
            case 0 -> prove(spoiled(tautology(f)), 0, i, i);
            case 1 -> prove(spoiled("=" + t + t), 1, i, i);
            case 2 -> prove(spoiled(">=" + s + t + "><" + s + u + "<" + t + u), 2, i, i);
            case 3 -> prove(spoiled(">=" + s + t + "><" + u + s + "<" + u + t), 3, i, i);
            case 4 -> prove(spoiled("!<" + t + "0"), 4, i, i);
            case 5 -> prove(spoiled("><" + u + "+" + s + t + "v<" + u + s + "=" + u + t), 5, i, i);
            case 6 -> prove(spoiled(">v<" + u + s + "=" + u + t + "<" + u + "+" + s + t), 6, i, i);
            case 7 -> prove(spoiled(">^L" + x + s + "<" + x + t + "L" + x + t + "<" + x + s + "=" + s + t), 7, i, i);
            case 8 -> prove(spoiled(">L" + x + s + f + "><" + t + s + replaced(f, x, t)), 8, i, i);
            case 9 -> detach(i, f);
            case 10 -> specialize(i, s);
            case 11 -> generalize(x, s, f);
            case 12 -> induce(tautology(f));
            case 13 -> unfold();
            case 14 -> prove(spoiled("><" + u + "{" + x + s + f + "^<" + u + s + replaced(f, x, u)), 14, i, i);
            case 15 -> prove(spoiled(">^<" + u + s + replaced(f, x, u) + "<" + u + "{" + x + s + f), 15, i, i);
            case 16 -> prove(spoiled(">E" + x + s + f + "!L" + x + s + "!" + f), 16, i, i);
            default -> prove(spoiled(">!L" + x + s + "!" + f + "E" + x + s + f), 17, i, i);
        }
    }

    private String tautology(String f) {
        String g = formula(random.nextInt(2));
        return switch (random.nextInt(5)) {
            case 0 -> "v" + f + "!" + f;
            case 1 -> ">" + f + f;
            case 2 -> ">" + f + ">" + g + f;
            case 3 -> ">^" + f + g + g;
            default -> "v" + g + "v" + f + "!" + g;
        };
    }

    private void detach(int i, String f) {
        if (model.theorems() == 0) {
            prove(f, 9, i, i);
            return;
        }
        String law = model.lawText(i);
        int j = prove(">" + law + ">" + f + law, 0, 0, 0);
        prove(spoiled(">" + f + law), 9, i, j);
    }

    private void specialize(int i, String term) {
        String law = model.theorems() == 0 ? "=aa" : model.lawText(i);
        char x = letter();
        prove(spoiled(replaced(law, x, term)), 10, i, x - 'a');
    }

    private void generalize(char x, String s, String f) {
        String g = random.nextBoolean() ? "<" + x + s : tautology(f);
        int i = prove("><" + x + s + g, 0, 0, 0);
        prove(spoiled("L" + x + s + g), 11, i < 0 ? model.theorems() - 1 : i, 0);
    }

    private void induce(String f) {
        char x = letter();
        char y = letter();
        int i = prove(replaced(f, x, "0"), 0, 0, 0);
        int j = prove(">" + f + replaced(f, x, "+" + x + y), 0, 0, 0);
        prove(spoiled(f), 12, i, j);
    }

    private void unfold() {
        int f = random.nextInt(4);
        String left = "" + (char) ('A' + f);
        String[] bodies = {"|a{ba<bb", "Iba+ba", "+ab", "|c-ba", "UIba+" + left + "b" + left + "b"};
        int chosen = random.nextInt(bodies.length);
        if (takes[f] == 0) {
            int n = chosen == 0 || chosen == 1 || chosen == 4 ? 1 : chosen == 2 ? 2 : 3;
            type(bodies[chosen]);
            define(f, n);
        }
        String right = bodies[chosen];
        String[] marks = {"#", "$", "%"};
        for (int k = 0; k < takes[f]; k++) {
            right = replaced(right, (char) ('a' + k), marks[k]);
        }
        for (int k = 0; k < takes[f]; k++) {
            String term = term(random.nextInt(2));
            left += term;
            right = right.replace(marks[k], term);
        }
        prove(spoiled("=" + left + right), 13, 0, 0);
    }

    /** Replaces letters that look free (not those which a quantifier in front of them binds just there). */
    private String replaced(String text, char x, String term) {
        StringBuilder result = new StringBuilder();
        boolean boundOnce = text.matches(".*[{IEL]" + x + ".*");
        for (int k = 0; k < text.length(); k++) {
            boolean isBinding = k > 0 && "{IEL".indexOf(text.charAt(k - 1)) >= 0;
            boolean stays = text.charAt(k) != x || isBinding || boundOnce && random.nextInt(3) == 0;
            result.append(stays ? "" + text.charAt(k) : term);
        }
        return result.toString();
    }

    private void compareTheorems() {
        same("theorems()", program.theorems(), model.theorems());
        for (int i = -1; i <= 16; i++) {
            same("rests(" + i + ")", program.rests(i), model.rests(i));
            int length = i >= 0 && i < model.theorems() ? model.lawText(i).length() : 0;
            int[] places = {-1, random.nextInt(60), length - 1, length, 60};
            for (int k : places) {
                same("theorem(" + i + ", " + k + ")", program.theorem(i, k), model.theorem(i, k));
            }
        }
    }

    // Texts

    private char letter() {
        return (char) ('a' + random.nextInt(random.nextInt(3) == 0 ? 8 : 4));
    }

    private String term(int size) {
        if (size <= 0) {
            return random.nextInt(3) == 0 ? "" + random.nextInt(10) : "" + letter();
        }
        return switch (random.nextInt(10)) {
            case 0, 1, 2, 3 -> "+|&-".charAt(random.nextInt(4)) + term(size / 2) + term((size - 1) / 2);
            case 4, 5 -> "UPT".charAt(random.nextInt(3)) + term(size - 1);
            case 6 -> "{" + letter() + term(size / 3) + formula(size / 2);
            case 7 -> "I" + letter() + term(size / 3) + term(size / 2);
            default -> functionTerm(size);
        };
    }

    private String functionTerm(int size) {
        int f = random.nextInt(4);
        StringBuilder text = new StringBuilder().append((char) ('A' + f));
        int n = (char) ('A' + f) == ownName ? ownTakes : takes[f];
        if (n == 0 && random.nextInt(10) != 0) {
            return term(size - 1);
        }
        for (int k = 0; k < n; k++) {
            text.append(term(size / (n + 1)));
        }
        return text.toString();
    }

    private String formula(int size) {
        if (size <= 0) {
            return "<=".charAt(random.nextInt(2)) + term(0) + term(0);
        }
        return switch (random.nextInt(6)) {
            case 0 -> "!" + formula(size - 1);
            case 1 -> "^v>".charAt(random.nextInt(3)) + formula(size / 2) + formula((size - 1) / 2);
            case 2, 3 -> "<=".charAt(random.nextInt(2)) + term(size / 2) + term((size - 1) / 2);
            default -> "EL".charAt(random.nextInt(2)) + ("" + letter()) + term(size / 3) + formula(size / 2);
        };
    }

    /** A body with recursion in it, most often as it may be; letters that are over a are the callable ones. */
    private String body(int size, String known, String callable) {
        if (!callable.isEmpty() && random.nextInt(3) == 0) {
            StringBuilder text = new StringBuilder().append(ownName).append(callable.charAt(random.nextInt(callable.length())));
            for (int k = 1; k < ownTakes; k++) {
                text.append(body(size / 3, known, callable));
            }
            return text.toString();
        }
        if (size <= 0) {
            return random.nextInt(4) == 0 ? "" + random.nextInt(10) : "" + known.charAt(random.nextInt(known.length()));
        }
        char x = letter();
        switch (random.nextInt(5)) {
            case 0:
                return "U" + body(size - 1, known, callable);
            case 1:
                return "+|&-".charAt(random.nextInt(4)) + body(size / 2, known, callable) + body(size / 2, known, callable);
            case 2:
                return "{" + x + "a" + "=" + body(size / 2, known + x, callable + x) + body(size / 2, known + x, callable + x);
            case 3:
                return "I" + x + body(size / 3, known, callable) + body(size / 2, known + x, callable);
            default:
                return "I" + x + "a" + body(size - 1, known + x, callable + x);
        }
    }

    private String spoiled(String text) {
        StringBuilder result = new StringBuilder(text);
        int place = random.nextInt(text.length());
        switch (random.nextInt(12)) {
            case 0 -> result.setCharAt(place, (char) (33 + random.nextInt(94)));
            case 1 -> result.setCharAt(place, text.charAt(random.nextInt(text.length())));
            case 2 -> result.deleteCharAt(place);
            case 3 -> result.setCharAt(place, letter());
            default -> { }
        }
        return result.toString();
    }
}
