/** Promise 1: a new object; and the constants and members of the public face. */
public final class NewObjectTest {
    private static final String FACE = "BAD FULL NO OUT clear define eval let prove rank refute rests size theorem theorems truth type";

    public static void main(String[] args) {
        Check check = new Check();
        startsEmpty(check, new AdjoinedSets());
        sharesNothing(check);
        hasJustTheFace(check);
        check.end("NewObjectTest");
    }

    private static void startsEmpty(Check check, AdjoinedSets x) {
        check.due("theorems of a new object", x.theorems(), 0);
        check.due("buffer of a new object", x.clear(), 0);
        check.due("theorem of a new object", x.theorem(0, 0), AdjoinedSets.BAD);
        check.due("rests of a new object", x.rests(0), AdjoinedSets.BAD);
        for (char letter = 'a'; letter <= 'h'; letter++) {
            check.eval(x, "" + letter, 0);
        }
        for (char name = 'A'; name <= 'D'; name++) {
            check.eval(x, name + "0", -100);
        }
    }

    private static void sharesNothing(Check check) {
        AdjoinedSets used = new AdjoinedSets();
        used.let(3, 77);
        check.define(used, 0, 1, "a", 0);
        check.prove(used, "=aa", 1, 0, 0, 0);
        Check.type(used, "abc");
        startsEmpty(check, new AdjoinedSets());
        check.due("buffer of the older object", used.clear(), 3);
        check.eval(used, "Ad", 77);
    }

    private static void hasJustTheFace(Check check) {
        check.due("BAD", AdjoinedSets.BAD, -1);
        check.due("FULL", AdjoinedSets.FULL, -2);
        check.due("OUT", AdjoinedSets.OUT, -3);
        check.due("NO", AdjoinedSets.NO, -4);
        java.util.TreeSet<String> names = new java.util.TreeSet<>();
        for (java.lang.reflect.Method method : AdjoinedSets.class.getDeclaredMethods()) {
            if (!java.lang.reflect.Modifier.isPrivate(method.getModifiers())) {
                names.add(method.getName());
            }
        }
        for (java.lang.reflect.Field field : AdjoinedSets.class.getDeclaredFields()) {
            if (!java.lang.reflect.Modifier.isPrivate(field.getModifiers())) {
                names.add(field.getName());
            }
        }
        check.due("the face is " + names, String.join(" ", names).equals(FACE), true);
        check.due("constructors", AdjoinedSets.class.getDeclaredConstructors().length, 1);
    }
}
