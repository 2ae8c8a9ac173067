import java.io.IOException;
import java.lang.reflect.Method;
import java.nio.file.Files;
import java.nio.file.Path;
import java.util.regex.Matcher;
import java.util.regex.Pattern;

/** README.md's example, each call with the answer that its comment begins with; and README.md's script. */
public final class ReadmeTest {
    private static final Pattern MADE = Pattern.compile("PrivateQueries x = new PrivateQueries\\((\\d+), (\\d+)\\);.*");
    private static final Pattern CALL = Pattern.compile("x\\.(\\w+)\\(([^)]*)\\);\\s*// (-?\\d+|true|false)\\b.*");
    private static final Check CHECK = new Check();

    public static void main(String[] args) throws IOException, ReflectiveOperationException {
        String readme = Files.readString(Path.of("README.md"));
        PrivateQueries x = null;
        int calls = 0;
        for (String line : block(readme, "java").split("\n")) {
            Matcher made = MADE.matcher(line);
            Matcher call = CALL.matcher(line);
            if (made.matches()) {
                x = new PrivateQueries(Integer.parseInt(made.group(1)), Integer.parseInt(made.group(2)));
            } else if (x != null && call.matches()) {
                calls++;
                CHECK.due(line, call.group(3), answer(x, call.group(1), call.group(2)));
            } else {
                CHECK.due("a line of README.md is a call with its answer", "", line);
            }
        }
        CHECK.due("README.md has an example", true, calls > 10);
        String script = block(readme, "text").replace('\n', ' ');
        CHECK.due("statements of README.md's script", script.split(";").length - 1, Check.read(new PrivateQueries(1, 2), script));
        everyCallIsTold(readme);
        CHECK.end();
    }

    private static String block(String readme, String sort) {
        Matcher found = Pattern.compile("(?s)```" + sort + "\n(.*?)```").matcher(readme);
        return found.find() ? found.group(1) : "";
    }

    private static String answer(PrivateQueries x, String name, String written) throws ReflectiveOperationException {
        String[] parts = written.isEmpty() ? new String[0] : written.split(", ");
        for (Method method : PrivateQueries.class.getMethods()) {
            if (method.getName().equals(name) && method.getParameterCount() == parts.length) {
                Object[] values = new Object[parts.length];
                for (int i = 0; i < parts.length; i++) {
                    long value = Long.decode(parts[i].replace("L", ""));
                    if (method.getParameterTypes()[i] == long.class) {
                        values[i] = value;
                    } else {
                        values[i] = (int) value;
                    }
                }
                return "" + method.invoke(x, values);
            }
        }
        return "no such call";
    }

    private static void everyCallIsTold(String readme) {
        for (Method method : PrivateQueries.class.getDeclaredMethods()) {
            if (java.lang.reflect.Modifier.isPublic(method.getModifiers())) {
                CHECK.due(method.getName() + " is in README.md's table", true, readme.contains("| `" + method.getName() + "("));
            }
        }
    }
}
