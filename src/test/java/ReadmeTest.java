import java.lang.reflect.Method;
import java.nio.file.Files;
import java.nio.file.Path;
import java.util.regex.Matcher;
import java.util.regex.Pattern;

/** README.md's example answers what stands behind its lines. */
public final class ReadmeTest {
    private static final Pattern CALL = Pattern.compile("bench\\.(\\w+)\\((.*)\\); +// (-?\\d+): .*");
    private static final String FIRST = "ShutBench bench = new ShutBench();";

    public static void main(String[] args) throws Exception {
        Checks checks = new Checks();
        String readme = Files.readString(Path.of("README.md"));
        String[] parts = readme.split("\n" + Pattern.quote(FIRST) + "\n", -1);
        checks.due("examples that begin with a new bench", parts.length - 1, 1);
        ShutBench bench = new ShutBench();
        for (String line : parts[parts.length - 1].split("\n```", -1)[0].split("\n")) {
            Matcher call = CALL.matcher(line);
            boolean isCall = call.matches();
            checks.due("a call with its answer: " + line, isCall ? 1 : 0, 1);
            if (isCall) {
                checks.due(line, answer(bench, call.group(1), call.group(2)), Long.parseLong(call.group(3)));
            }
        }
        checks.close("ReadmeTest");
    }

    private static long answer(ShutBench bench, String name, String told) throws Exception {
        String[] words = told.isEmpty() ? new String[0] : told.split(", ");
        for (Method method : ShutBench.class.getMethods()) {
            if (method.getName().equals(name) && method.getParameterCount() == words.length) {
                Object[] arguments = new Object[words.length];
                for (int i = 0; i < words.length; i++) {
                    boolean isLong = method.getParameterTypes()[i] == long.class;
                    arguments[i] = isLong ? (Object) Long.decode(words[i]) : (Object) Integer.decode(words[i]);
                }
                return ((Number) method.invoke(bench, arguments)).longValue();
            }
        }
        throw new IllegalArgumentException(name);
    }
}
