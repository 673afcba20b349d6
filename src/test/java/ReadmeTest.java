import java.io.IOException;
import java.lang.reflect.Method;
import java.nio.file.Files;
import java.nio.file.Path;
import java.util.HashMap;
import java.util.HashSet;
import java.util.Map;
import java.util.Set;
import java.util.regex.Matcher;
import java.util.regex.Pattern;

/**
 * The calls that README.md shows answer what it says: each ends in a remark that begins with its
 * answer. All of them, in the order in which they stand there, are made on one object.
 */
public final class ReadmeTest {
    private static final Pattern MADE = Pattern.compile("QlRewrite x = new QlRewrite\\(\\);.*");
    private static final Pattern CALL = Pattern.compile(
        "(?:int (\\w+) = )?x\\.(\\w+)\\(([^)]*)\\);\\s*// (-?\\d+|BAD|FULL|LARGE)(?:[:, ].*)?");
    private static final Check CHECK = new Check();

    private final Map<String, Integer> known = new HashMap<>();
    private final Set<String> called = new HashSet<>();
    private QlRewrite x = null;

    private ReadmeTest() {
        known.put("BAD", QlRewrite.BAD);
        known.put("FULL", QlRewrite.FULL);
        known.put("LARGE", QlRewrite.LARGE);
    }

    public static void main(String[] args) throws Exception {
        new ReadmeTest().runBlocks();
        CHECK.end();
    }

    private void runBlocks() throws IOException, ReflectiveOperationException {
        boolean java = false;
        for (String line : Files.readAllLines(Path.of("README.md"))) {
            if (line.startsWith("```")) {
                java = line.equals("```java");
            } else if (java && !line.isBlank()) {
                runLine(line.strip());
            }
        }
        for (Method method : QlRewrite.class.getMethods()) {
            if (method.getDeclaringClass() == QlRewrite.class) {
                CHECK.due("README.md shows " + method.getName(), called.contains(method.getName()) ? 1 : 0, 1);
            }
        }
    }

    private void runLine(String line) throws ReflectiveOperationException {
        if (MADE.matcher(line).matches()) {
            x = new QlRewrite();
            return;
        }
        Matcher call = CALL.matcher(line);
        boolean understood = x != null && call.matches();
        CHECK.due("this line of README.md is a call with its answer: " + line, understood ? 1 : 0, 1);
        if (understood) {
            int got = answerOf(call.group(2), call.group(3));
            CHECK.due("README.md: " + line, got, valueOf(call.group(4)));
            called.add(call.group(2));
            if (call.group(1) != null) {
                known.put(call.group(1), got);
            }
        }
    }

    private int answerOf(String name, String told) throws ReflectiveOperationException {
        String[] words = told.isBlank() ? new String[0] : told.split(", ");
        for (Method method : QlRewrite.class.getMethods()) {
            if (method.getName().equals(name) && method.getParameterCount() == words.length) {
                Object[] arguments = new Object[words.length];
                for (int i = 0; i < words.length; i++) {
                    boolean truth = method.getParameterTypes()[i] == boolean.class;
                    arguments[i] = truth ? (Object) words[i].equals("true") : (Object) valueOf(words[i]);
                }
                return (int) method.invoke(x, arguments);
            }
        }
        throw new IllegalStateException("no method " + name + " of " + words.length);
    }

    private int valueOf(String word) {
        return known.containsKey(word) ? known.get(word) : Integer.parseInt(word);
    }
}
