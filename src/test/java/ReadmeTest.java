import java.lang.reflect.Method;
import java.lang.reflect.Modifier;
import java.nio.file.Files;
import java.nio.file.Path;
import java.util.List;
import java.util.regex.Matcher;
import java.util.regex.Pattern;

/** README.md's example, done as it is written there, answers what it says; and README.md tells of every call. */
public final class ReadmeTest {
    private static final Pattern MAKING =
        Pattern.compile("ReplicaHeap heap = new ReplicaHeap\\((\\d+), (\\d+)\\);\\s*//.*");
    private static final Pattern CALL = Pattern.compile("heap\\.(\\w+)\\(([^()]*)\\);\\s*//(?: answers ([^:]*))?.*");

    public static void main(String[] args) throws Exception {
        List<String> lines = Files.readAllLines(Path.of("README.md"));
        int begin = lines.indexOf("```java");
        int end = begin + lines.subList(begin, lines.size()).indexOf("```");
        Matcher making = MAKING.matcher(lines.get(begin + 1));
        Check.due(lines.get(begin + 1) + " makes a heap", making.matches(), true);
        ReplicaHeap heap = new ReplicaHeap(number(making.group(1)), number(making.group(2)));
        for (String line : lines.subList(begin + 2, end)) {
            checkLine(heap, line);
        }
        checkCallsAreTold(String.join("\n", lines));
        Check.end();
    }

    private static void checkLine(ReplicaHeap heap, String line) throws Exception {
        Matcher call = CALL.matcher(line);
        Check.due(line + " is a call", call.matches(), true);
        String[] written = call.group(2).split(", ");
        Object[] arguments = new Object[written.length];
        for (int i = 0; i < written.length; i++) {
            arguments[i] = number(written[i]);
        }
        Method method = named(call.group(1));
        Object answer = method.invoke(heap, arguments);
        boolean answers = method.getReturnType() != void.class;
        Check.due(line + " tells an answer", call.group(3) != null, answers);
        if (answers) {
            Check.same(line, answer.toString(), call.group(3));
        }
    }

    private static int number(String written) {
        return written.equals("ReplicaHeap.NONE") ? ReplicaHeap.NONE : Integer.parseInt(written);
    }

    private static Method named(String name) {
        for (Method method : ReplicaHeap.class.getDeclaredMethods()) {
            if (Modifier.isPublic(method.getModifiers()) && method.getName().equals(name)) {
                return method;
            }
        }
        throw new IllegalStateException("no call " + name);
    }

    private static void checkCallsAreTold(String readme) {
        for (Method method : ReplicaHeap.class.getDeclaredMethods()) {
            if (Modifier.isPublic(method.getModifiers())) {
                Check.due(method + " has a row", readme.contains("| `" + method.getName() + "("), true);
            }
        }
    }
}
