import java.io.IOException;
import java.lang.reflect.InvocationTargetException;
import java.lang.reflect.Method;
import java.lang.reflect.Modifier;
import java.nio.charset.StandardCharsets;
import java.nio.file.Files;
import java.nio.file.Path;
import java.util.ArrayList;
import java.util.List;
import java.util.regex.Matcher;
import java.util.regex.Pattern;

/** README.md: each call of its examples answers what stands behind it, and each call of the face is told. */
public final class ReadmeTest {
    private static final Checks CHECKS = new Checks("ReadmeTest");
    private static final Path PAGE = Path.of("README.md");
    private static final Pattern CALL = Pattern.compile("x\\.(\\w+)\\(([^)]*)\\); +// (-?\\d+|true|false)\\b.*");

    public static void main(String[] args) throws IOException, ReflectiveOperationException {
        List<String> page = Files.readAllLines(PAGE, StandardCharsets.UTF_8);
        examples(page);
        everyCallIsTold(String.join("\n", page));
        textOfTheExample(page);
        CHECKS.finish();
    }

    private static void examples(List<String> page) throws ReflectiveOperationException {
        BreakSetter x = null;
        boolean inExample = false;
        int calls = 0;
        for (String line : page) {
            if (line.startsWith("```")) {
                inExample = line.equals("```java");
            } else if (inExample && line.equals("BreakSetter x = new BreakSetter();")) {
                x = new BreakSetter();
            } else if (inExample) {
                Matcher call = CALL.matcher(line);
                boolean isCall = call.matches();
                CHECKS.isTrue("a call with its answer: " + line, isCall);
                if (isCall) {
                    CHECKS.same(line, answer(x, call.group(1), call.group(2)), number(call.group(3)));
                    calls++;
                }
            }
        }
        CHECKS.isTrue("there are examples (calls: " + calls + ")", calls >= 20);
    }

    private static long answer(BreakSetter x, String name, String arguments) throws ReflectiveOperationException {
        String[] told = arguments.isEmpty() ? new String[0] : arguments.split(", ");
        List<Object> values = new ArrayList<>();
        for (String one : told) {
            values.add(Integer.decode(one));
        }
        for (Method method : BreakSetter.class.getMethods()) {
            if (method.getName().equals(name) && method.getParameterCount() == told.length) {
                try {
                    return number(String.valueOf(method.invoke(x, values.toArray())));
                } catch (InvocationTargetException e) {
                    throw new IllegalStateException("an example throws: " + name, e);
                }
            }
        }
        throw new IllegalStateException("an example calls what is not there: " + name);
    }

    private static long number(String answer) {
        return answer.equals("true") ? 1 : answer.equals("false") ? 0 : Long.parseLong(answer);
    }

    private static void everyCallIsTold(String page) {
        for (Method method : BreakSetter.class.getDeclaredMethods()) {
            if (Modifier.isPublic(method.getModifiers())) {
                CHECKS.isTrue("the page tells " + method.getName(), page.contains("| `" + method.getName() + "("));
            }
        }
    }

    /** The text that the page shows is the one that its first example feeds. */
    private static void textOfTheExample(List<String> page) {
        StringBuilder shown = new StringBuilder();
        boolean inText = false;
        for (String line : page) {
            if (line.startsWith("```")) {
                inText = line.equals("```text");
            } else if (inText) {
                shown.append(line, 0, line.indexOf(';') + 1);
            }
        }
        BreakSetter x = new BreakSetter();
        CHECKS.same("bytes of the text that is shown", shown.length(), 47);
        CHECKS.same("its lines", Checks.tell(x, shown.toString()), 3);
        CHECKS.same("its shortfall", x.now(4), 8);
    }
}
