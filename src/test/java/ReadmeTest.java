import java.io.IOException;
import java.lang.reflect.Method;
import java.lang.reflect.Modifier;
import java.nio.file.Files;
import java.nio.file.Path;
import java.util.regex.Matcher;
import java.util.regex.Pattern;

/** The example of README.md answers what its comments say, and README.md tells of the whole face. */
public final class ReadmeTest {
    private static final Path README = Path.of("README.md");
    private static final Pattern MAKING = Pattern.compile("GroupDesk desk = new GroupDesk\\((\\d+)\\);.*");
    private static final Pattern CALL = Pattern.compile("desk\\.(\\w+)\\(([^)]*)\\);\\s*// (-?\\w+).*");

    public static void main(String[] args) throws Exception {
        String text = Files.readString(README);
        Matcher example = Pattern.compile("(?s)```java\n(.*?)```").matcher(text);
        if (example.find()) {
            runExample(example.group(1));
        } else {
            Check.fail("README.md has no example");
        }
        for (Method method : GroupDesk.class.getDeclaredMethods()) {
            if (Modifier.isPublic(method.getModifiers()) && !text.contains("| `" + method.getName() + "(")) {
                Check.fail("README.md does not tell of " + method.getName());
            }
        }
        Check.done();
    }

    private static void runExample(String example) throws Exception {
        GroupDesk desk = null;
        int calls = 0;
        for (String line : example.split("\n")) {
            Matcher making = MAKING.matcher(line);
            Matcher call = CALL.matcher(line);
            if (making.matches()) {
                desk = new GroupDesk(Integer.parseInt(making.group(1)));
            } else if (desk != null && call.matches()) {
                calls++;
                Check.due(line, answerOf(desk, call.group(1), call.group(2)), meantBy(call.group(3)));
            } else {
                Check.fail("this line of the example can't be run: " + line);
            }
        }
        Check.due("the example has calls", calls > 0 ? 1 : 0, 1);
    }

    private static long answerOf(GroupDesk desk, String name, String arguments) throws Exception {
        String[] written = arguments.isEmpty() ? new String[0] : arguments.split(", ");
        for (Method method : GroupDesk.class.getDeclaredMethods()) {
            if (method.getName().equals(name) && method.getParameterCount() == written.length) {
                Object[] given = new Object[written.length];
                for (int i = 0; i < given.length; i++) {
                    given[i] = numberOf(written[i]);
                }
                return ((Number) method.invoke(desk, given)).longValue();
            }
        }
        throw new IOException("there is no method " + name + " with so many arguments");
    }

    private static Object numberOf(String written) {
        if (written.endsWith("L")) {
            return Long.valueOf(written.substring(0, written.length() - 1));
        }
        return Integer.valueOf(written);
    }

    private static long meantBy(String answer) throws Exception {
        if (Character.isUpperCase(answer.charAt(0))) {
            return GroupDesk.class.getField(answer).getInt(null);
        }
        return Long.parseLong(answer);
    }
}
