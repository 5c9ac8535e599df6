import java.lang.reflect.Method;
import java.lang.reflect.Modifier;
import java.nio.file.Files;
import java.nio.file.Path;
import java.util.List;
import java.util.regex.Matcher;
import java.util.regex.Pattern;

/** What README.md shows is so; .ci/run starts it in the checkout. */
final class ReadmeTest {
    private static final Due due = new Due("ReadmeTest");
    private static final Pattern FED = Pattern.compile("for \\(char sign : \"(.*)\"\\.toCharArray\\(\\)\\) \\{");
    private static final Pattern CALL = Pattern.compile("x\\.(\\w+)\\((.*)\\); +// (-?\\d+)(:.*)?");
    // What a line may be that is no call with an answer: the new object, and the loop that feeds.
    private static final List<String> OTHERS = List.of("OneFan x = new OneFan();", "    x.feed(sign);", "}");

    public static void main(String[] args) throws Exception {
        List<String> lines = Files.readAllLines(Path.of("README.md"));
        example(lines);
        table(String.join("\n", lines));
        due.end();
    }

    private static void example(List<String> lines) throws Exception {
        OneFan x = new OneFan();
        boolean isJava = false;
        int calls = 0;
        for (String line : lines) {
            if (line.startsWith("```")) {
                isJava = line.equals("```java");
                continue;
            }
            Matcher fed = FED.matcher(line);
            Matcher call = CALL.matcher(line);
            if (isJava && fed.matches()) {
                Due.fed(x, fed.group(1));
            } else if (isJava && call.matches()) {
                due.is(line, answer(x, call.group(1), call.group(2)), Long.parseLong(call.group(3)));
                calls++;
            } else if (isJava) {
                due.isTrue("a line that can be read: " + line, OTHERS.contains(line));
            }
        }
        due.isTrue("there are calls", calls > 0);
    }

    private static long answer(OneFan x, String name, String told) throws Exception {
        String[] parts = told.isEmpty() ? new String[0] : told.split(", ");
        for (Method method : OneFan.class.getDeclaredMethods()) {
            if (method.getName().equals(name) && Modifier.isPublic(method.getModifiers())) {
                Object[] values = new Object[parts.length];
                for (int i = 0; i < parts.length; i++) {
                    values[i] = parts[i].startsWith("'") ? parts[i].charAt(1) : Integer.parseInt(parts[i]);
                }
                return ((Number) method.invoke(x, values)).longValue();
            }
        }
        throw new IllegalStateException("no such call: " + name);
    }

    private static void table(String text) {
        for (Method method : OneFan.class.getDeclaredMethods()) {
            if (Modifier.isPublic(method.getModifiers())) {
                due.isTrue("the table has " + method.getName(), text.matches("(?s).*\\n\\|[^\\n]*`" + method.getName() + "`.*"));
            }
        }
    }
}
