import java.lang.reflect.Method;
import java.nio.file.Files;
import java.nio.file.Path;
import java.util.regex.Matcher;
import java.util.regex.Pattern;

/** Makes the calls of the examples in README.md, in their order, and compares the answers that stand behind them. */
public final class ReadmeTest {
    private static final Pattern TYPED = Pattern.compile("type\\(sets, \"(.*)\"\\);");
    private static final Pattern CALL = Pattern.compile("sets\\.(\\w+)\\((.*)\\); +// (-?\\w+).*");
    // One in the README for each method of the face, at least.
    private static final int LEAST_CALLS = 13;

    private final Check check = new Check();
    private AdjoinedSets sets;
    private int calls = 0;

    public static void main(String[] args) throws Exception {
        ReadmeTest test = new ReadmeTest();
        for (String line : Files.readAllLines(Path.of("README.md"))) {
            test.follow(line);
        }
        test.check.due("enough calls in the README", test.calls >= LEAST_CALLS, true);
        test.check.end("ReadmeTest");
    }

    private void follow(String line) throws Exception {
        if (line.equals("AdjoinedSets sets = new AdjoinedSets();")) {
            sets = new AdjoinedSets();
        }
        Matcher typed = TYPED.matcher(line);
        if (typed.matches()) {
            check.due(line, Check.type(sets, typed.group(1)), typed.group(1).length());
        }
        Matcher call = CALL.matcher(line);
        if (call.matches()) {
            calls++;
            String answer = String.valueOf(called(call.group(1), call.group(2)));
            check.due(line + " answered " + answer, answer.equals(call.group(3)), true);
        } else {
            check.due("an answer stands behind " + line, line.startsWith("sets."), false);
        }
    }

    private Object called(String name, String numbers) throws Exception {
        String[] parts = numbers.isEmpty() ? new String[0] : numbers.split(", ");
        for (Method method : AdjoinedSets.class.getMethods()) {
            if (method.getName().equals(name)) {
                Object[] given = new Object[parts.length];
                for (int k = 0; k < parts.length; k++) {
                    long number = Long.decode(parts[k].replace("L", ""));
                    given[k] = method.getParameterTypes()[k] == long.class ? (Object) number : (Object) (int) number;
                }
                return method.invoke(sets, given);
            }
        }
        throw new IllegalArgumentException(name);
    }
}
