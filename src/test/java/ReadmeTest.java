import java.io.IOException;
import java.lang.reflect.Method;
import java.nio.file.Files;
import java.nio.file.Path;
import java.util.regex.Matcher;
import java.util.regex.Pattern;

/** The calls in README.md answer as it says. It is run where .ci/run runs it, in the project's directory. */
public final class ReadmeTest {
    private static final Pattern CALL = Pattern.compile("loom\\.(\\w+)\\(([^)]*)\\); *// ([^:]+): .*");

    public static void main(String[] args) throws IOException, ReflectiveOperationException {
        Due due = new Due();
        FaultLoom loom = new FaultLoom();
        int calls = 0;
        for (String line : Files.readAllLines(Path.of("README.md"))) {
            Matcher call = CALL.matcher(line);
            if (call.matches()) {
                calls++;
                String got = answer(loom, call.group(1), call.group(2));
                if (!got.equals(call.group(3))) {
                    due.miss(call.group(1) + "(" + call.group(2) + ")", got, call.group(3));
                }
            } else if (line.startsWith("loom.")) {
                due.miss(line, "nothing", "an answer behind the call");
            }
        }
        due.is("there are calls", calls > 0, true);
        due.end();
    }

    private static String answer(FaultLoom loom, String name, String text) throws ReflectiveOperationException {
        String[] parts = text.isEmpty() ? new String[0] : text.split(", *");
        Class<?>[] types = new Class<?>[parts.length];
        Object[] values = new Object[parts.length];
        for (int i = 0; i < parts.length; i++) {
            types[i] = int.class;
            values[i] = Integer.valueOf(parts[i]);
        }
        Method method = FaultLoom.class.getMethod(name, types);
        return String.valueOf(method.invoke(loom, values));
    }
}
