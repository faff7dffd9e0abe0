import java.lang.reflect.Method;
import java.lang.reflect.Modifier;
import java.nio.file.Files;
import java.nio.file.Path;
import java.util.regex.Matcher;
import java.util.regex.Pattern;

/** README.md's example answers as its comments say; each call and each error has its row, with the right number. */
public final class ReadmeTest {
    private static final Pattern EXAMPLE = Pattern.compile("```java\n(.*?)```", Pattern.DOTALL);
    private static final Pattern CALL = Pattern.compile("ministry\\.(\\w+)\\((.*)\\); +// (-?\\d+): .+");
    private static final String MADE = "HalfTickets ministry = new HalfTickets();";

    private static int wrong = 0;

    private static void wrong(String what) {
        wrong++;
        System.out.println(what);
    }

    private static Method called(String name) {
        for (Method method : HalfTickets.class.getDeclaredMethods()) {
            if (Modifier.isPublic(method.getModifiers()) && method.getName().equals(name)) {
                return method;
            }
        }
        throw new IllegalArgumentException("no such call: " + name);
    }

    private static Object argument(Class<?> type, String text) {
        if (type == boolean.class) {
            return Boolean.valueOf(text);
        }
        if (type == long.class) {
            return Long.decode(text.replaceFirst("L$", ""));
        }
        return Integer.valueOf(text);
    }

    private static int answer(HalfTickets ministry, String name, String list) throws ReflectiveOperationException {
        Method method = called(name);
        String[] texts = list.isEmpty() ? new String[0] : list.split(", ");
        Object[] values = new Object[texts.length];
        for (int index = 0; index < texts.length; index++) {
            values[index] = argument(method.getParameterTypes()[index], texts[index]);
        }
        return (int) method.invoke(ministry, values);
    }

    private static int checkExample(String example) throws ReflectiveOperationException {
        HalfTickets ministry = new HalfTickets();
        int calls = 0;
        for (String line : example.split("\n")) {
            Matcher call = CALL.matcher(line);
            if (call.matches()) {
                calls++;
                int got = answer(ministry, call.group(1), call.group(2));
                if (got != Integer.parseInt(call.group(3))) {
                    wrong(line + "\n    answered " + got);
                }
            } else if (!line.equals(MADE)) {
                wrong("is no call with its answer: " + line);
            }
        }
        return calls;
    }

    private static void checkTables(String readme) throws ReflectiveOperationException {
        for (Method method : HalfTickets.class.getDeclaredMethods()) {
            if (Modifier.isPublic(method.getModifiers()) && !readme.contains("\n| `" + method.getName() + "(")) {
                wrong("has no row: " + method);
            }
        }
        for (String error : new String[] {"NO_SUCH", "BAD_VALUE", "BAD_TEXT", "TOO_MANY", "NOT_POSSIBLE", "NONE"}) {
            String row = "\n| " + HalfTickets.class.getField(error).getInt(null) + " | `" + error + "` |";
            if (!readme.contains(row)) {
                wrong("is not there:" + row);
            }
        }
    }

    public static void main(String[] args) throws Exception {
        String readme = Files.readString(Path.of("README.md"));
        Matcher example = EXAMPLE.matcher(readme);
        int calls = example.find() ? checkExample(example.group(1)) : 0;
        checkTables(readme);
        System.out.println("ReadmeTest: " + calls + " calls, " + wrong + " wrong answers or missing rows");
        if (wrong != 0 || calls == 0) {
            System.exit(1);
        }
    }
}
