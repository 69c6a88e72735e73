/** Promise 1: a new object. */
public final class NewObjectTest {
    public static void main(String[] args) {
        Check check = new Check();
        startsEmpty(check, new AdjoinedSets());
        sharesNothing(check);
        check.end("NewObjectTest");
    }

    private static void startsEmpty(Check check, AdjoinedSets x) {
        check.due("theorems of a new object", x.theorems(), 0);
        check.due("buffer of a new object", x.clear(), 0);
        check.due("theorem of a new object", x.theorem(0, 0), AdjoinedSets.BAD);
        check.due("rests of a new object", x.rests(0), AdjoinedSets.BAD);
        for (char letter = 'a'; letter <= 'h'; letter++) {
            check.eval(x, "" + letter, 0);
        }
        for (char name = 'A'; name <= 'D'; name++) {
            check.eval(x, name + "0", -100);
        }
    }

    private static void sharesNothing(Check check) {
        AdjoinedSets used = new AdjoinedSets();
        used.let(3, 77);
        check.define(used, 0, 1, "a", 0);
        check.prove(used, "=aa", 1, 0, 0, 0);
        Check.type(used, "abc");
        startsEmpty(check, new AdjoinedSets());
        check.due("buffer of the older object", used.clear(), 3);
        check.eval(used, "Ad", 77);
    }
}
