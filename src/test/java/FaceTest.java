import java.lang.reflect.Constructor;
import java.lang.reflect.Executable;
import java.lang.reflect.Field;
import java.lang.reflect.Method;
import java.lang.reflect.Modifier;
import java.nio.file.Files;
import java.nio.file.Path;
import java.util.ArrayList;
import java.util.List;
import java.util.TreeSet;

/** "The public face": each constant, the constructor and each method as the document writes them, and nothing else. */
public final class FaceTest {
    /** As the document writes it. */
    private static final String[] FACE = {
        "public static final int BAD = -1;",
        "public static final int FULL = -2;",
        "public static final int OUT = -3;",
        "public static final int NO = -4;",
        "public AdjoinedSets();",
        "public int type(long characters, int n);",
        "public int clear();",
        "public boolean let(int x, long code);",
        "public long eval();",
        "public int truth();",
        "public int define(int f, int n);",
        "public int prove(int rule, int i, int j);",
        "public int theorems();",
        "public int theorem(int i, int k);",
        "public int rests(int i);",
        "public int refute(int k);",
        "public int size(long code);",
        "public int rank(long code);",
    };
    private static final Path README = Path.of("README.md");
    // LANGUAGE.md, rule 11.
    private static final int MOST_PARAMETERS = 7;
    private static final int MOST_CLASSES = 12;
    private static final int MOST_FIELDS = 20;

    private final Check check = new Check();
    private final List<Class<?>> classes = new ArrayList<>();

    public static void main(String[] args) throws Exception {
        FaceTest test = new FaceTest();
        test.classes.add(AdjoinedSets.class);
        test.classes.addAll(List.of(AdjoinedSets.class.getDeclaredClasses()));
        test.faceIsTheDocuments();
        test.readmeTellsTheWholeFace();
        test.classesInsideAreHiddenAndStatic();
        test.noPrivateMethodBearsAPublicName();
        test.staticFieldsAreFinal();
        test.sizesKeepToTheLanguage();
        test.check.end("FaceTest");
    }

    private void faceIsTheDocuments() throws Exception {
        check.due("the class is public and final", AdjoinedSets.class.getModifiers(), Modifier.PUBLIC | Modifier.FINAL);
        TreeSet<String> due = documentedFace();
        TreeSet<String> face = new TreeSet<>();
        for (Field field : AdjoinedSets.class.getDeclaredFields()) {
            if (!Modifier.isPrivate(field.getModifiers())) {
                face.add(Modifier.toString(field.getModifiers()) + " " + field.getType() + " " + field.getName() + " = " + field.getInt(null));
            }
        }
        for (Constructor<?> constructor : AdjoinedSets.class.getDeclaredConstructors()) {
            if (!Modifier.isPrivate(constructor.getModifiers())) {
                face.add(Modifier.toString(constructor.getModifiers()) + " " + signature(constructor));
            }
        }
        for (Method method : AdjoinedSets.class.getDeclaredMethods()) {
            if (!Modifier.isPrivate(method.getModifiers())) {
                face.add(Modifier.toString(method.getModifiers()) + " " + method.getReturnType() + " " + signature(method));
            }
        }
        check.due("the face is " + face + ", due is " + due, face.equals(due), true);
    }

    private static String signature(Executable member) {
        List<String> types = new ArrayList<>();
        for (Class<?> type : member.getParameterTypes()) {
            types.add(type.toString());
        }
        return member.getName() + "(" + String.join(", ", types) + ")";
    }

    /** Without the names of parameters, which the compiled class does not tell. */
    private static TreeSet<String> documentedFace() {
        TreeSet<String> face = new TreeSet<>();
        for (String member : FACE) {
            face.add(member.replace(";", "").replaceAll("(int|long) \\w+([,)])", "$1$2"));
        }
        return face;
    }

    /** The README has a row for each member, which starts with it as the document writes it. */
    private void readmeTellsTheWholeFace() throws Exception {
        String readme = Files.readString(README);
        for (String line : FACE) {
            String member = line.replace("public ", "").replace("static final int ", "").replace(";", "");
            check.due("README.md has " + member, readme.contains("| `" + member + "` |"), true);
        }
    }

    private void classesInsideAreHiddenAndStatic() {
        for (Class<?> inside : AdjoinedSets.class.getDeclaredClasses()) {
            boolean hidden = !Modifier.isPublic(inside.getModifiers()) && !Modifier.isProtected(inside.getModifiers());
            check.due(inside + " is hidden", hidden, true);
            check.due(inside + " is static", Modifier.isStatic(inside.getModifiers()), true);
        }
    }

    private void noPrivateMethodBearsAPublicName() {
        TreeSet<String> names = new TreeSet<>();
        for (Method method : AdjoinedSets.class.getDeclaredMethods()) {
            if (Modifier.isPublic(method.getModifiers())) {
                names.add(method.getName());
            }
        }
        for (Class<?> type : classes) {
            for (Method method : type.getDeclaredMethods()) {
                boolean isFace = Modifier.isPublic(method.getModifiers());
                check.due(method + " has a name of its own", isFace || !names.contains(method.getName()), true);
            }
        }
    }

    private void staticFieldsAreFinal() {
        for (Class<?> type : classes) {
            for (Field field : type.getDeclaredFields()) {
                int modifiers = field.getModifiers();
                check.due(field + " is final", !Modifier.isStatic(modifiers) || Modifier.isFinal(modifiers), true);
            }
        }
    }

    private void sizesKeepToTheLanguage() {
        check.due("classes", classes.size() <= MOST_CLASSES, true);
        for (Class<?> type : classes) {
            int fields = 0;
            for (Field field : type.getDeclaredFields()) {
                fields += Modifier.isStatic(field.getModifiers()) ? 0 : 1;
            }
            check.due("fields of " + type, fields <= MOST_FIELDS, true);
            for (Method method : type.getDeclaredMethods()) {
                check.due("parameters of " + method, method.getParameterCount() <= MOST_PARAMETERS, true);
            }
        }
    }
}
