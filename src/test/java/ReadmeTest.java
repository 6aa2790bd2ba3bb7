import java.io.IOException;
import java.lang.reflect.InvocationTargetException;
import java.lang.reflect.Method;
import java.nio.file.Files;
import java.nio.file.Path;
import java.util.HashMap;
import java.util.Map;
import java.util.Set;
import java.util.TreeSet;
import java.util.regex.Matcher;
import java.util.regex.Pattern;

/** Makes the calls of the example in README.md, whose comments tell the answers, and looks for every call there. */
public final class ReadmeTest {
    private static final Checks CHECKS = new Checks();
    private static final Pattern EXAMPLE = Pattern.compile("(?ms)^```java\n(.*?)^```$");
    private static final Pattern CALL =
            Pattern.compile("(?:int (\\w+) = )?flash\\.(\\w+)\\(([^)]*)\\);\\s+// ([^:]+)(?::.*)?");
    private static final Map<String, Integer> NUMBERS = new HashMap<>();

    public static void main(String[] args) throws IOException, IllegalAccessException {
        String readme = Files.readString(Path.of("README.md"));
        Matcher example = EXAMPLE.matcher(readme);
        CHECKS.same("an example stands in README.md", 1, Checks.bit(example.find()));
        makeCalls(example.group(1));
        Set<String> names = new TreeSet<>();
        for (Method method : TransactionalFlash.class.getMethods()) {
            if (method.getDeclaringClass() == TransactionalFlash.class) {
                names.add(method.getName());
            }
        }
        for (String name : names) {
            CHECKS.same("README.md names " + name, 1, Checks.bit(readme.contains("`" + name + "`")));
        }
        CHECKS.end("ReadmeTest");
    }

    private static void makeCalls(String example) throws IllegalAccessException {
        TransactionalFlash flash = new TransactionalFlash();
        int calls = 0;
        for (String line : example.split("\n")) {
            Matcher call = CALL.matcher(line);
            boolean apart = line.isEmpty() || line.startsWith("//") || line.startsWith("TransactionalFlash flash = ");
            CHECKS.same("a line that can be checked: " + line, 1, Checks.bit(apart || call.matches()));
            if (!apart && call.matches()) {
                calls++;
                String answer = answerOf(flash, call.group(2), call.group(3));
                CHECKS.same(line + " <- " + answer, 1, Checks.bit(answer.equals(call.group(4))));
                if (call.group(1) != null) {
                    NUMBERS.put(call.group(1), Integer.valueOf(answer));
                }
            }
        }
        CHECKS.same("calls are made", 1, Checks.bit(calls > 10));
    }

    private static String answerOf(TransactionalFlash flash, String name, String arguments)
            throws IllegalAccessException {
        String[] words = arguments.isEmpty() ? new String[0] : arguments.split(", ");
        Object[] given = new Object[words.length];
        for (int i = 0; i < words.length; i++) {
            given[i] = NUMBERS.containsKey(words[i]) ? NUMBERS.get(words[i]) : Integer.decode(words[i]);
        }
        for (Method method : TransactionalFlash.class.getMethods()) {
            if (method.getName().equals(name) && method.getParameterCount() == given.length) {
                try {
                    return String.valueOf(method.invoke(flash, given));
                } catch (InvocationTargetException thrown) {
                    return thrown.getCause().getClass().getSimpleName();
                }
            }
        }
        return "no such call";
    }
}
