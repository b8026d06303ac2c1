import java.io.IOException;
import java.lang.reflect.Method;
import java.nio.file.Files;
import java.nio.file.Path;
import java.util.ArrayList;
import java.util.List;
import java.util.Map;
import java.util.Set;
import java.util.TreeSet;
import java.util.regex.Matcher;
import java.util.regex.Pattern;

/** The calls of README.md are answered as it says, and it has every call of the face. */
public final class ReadmeTest {
    private static final Pattern TEXT = Pattern.compile("```text\n(.*?)```", Pattern.DOTALL);
    private static final Pattern FEED = Pattern.compile("feed\\(x, (first|second)\\);");
    private static final Pattern CALL = Pattern.compile("x\\.(\\w+)\\(([^()]*)\\);\\s+// (-?\\d+|BAD|NONE|FULL|SPENT|FINE)\\b.*");
    private static final Map<String, Integer> REFUSALS = Map.of("BAD", TestHouse.BAD, "NONE", TestHouse.NONE, "FULL",
            TestHouse.FULL, "SPENT", TestHouse.SPENT, "FINE", TestHouse.FINE);

    private static int ask(TestHouse x, String name, String arguments) throws ReflectiveOperationException {
        String[] told = arguments.isEmpty() ? new String[0] : arguments.split(", ");
        for (Method method : TestHouse.class.getMethods()) {
            if (method.getName().equals(name) && method.getParameterCount() == told.length) {
                Object[] given = new Object[told.length];
                for (int i = 0; i < told.length; i++) {
                    given[i] = method.getParameterTypes()[i] == boolean.class ? (Object) Boolean.valueOf(told[i])
                            : (Object) Integer.valueOf(told[i]);
                }
                return (Integer) method.invoke(x, given);
            }
        }
        throw new NoSuchMethodException(name + " with " + told.length + " numbers");
    }

    public static void main(String[] args) throws IOException, ReflectiveOperationException {
        String page = Files.readString(Path.of(args.length > 0 ? args[0] : ".", "README.md"));
        List<String> texts = new ArrayList<>();
        Matcher text = TEXT.matcher(page);
        while (text.find()) {
            texts.add(text.group(1));
        }
        Checks.due("texts", texts.size(), 2);
        TestHouse x = new TestHouse();
        Set<String> left = new TreeSet<>();
        for (Method method : TestHouse.class.getDeclaredMethods()) {
            if (java.lang.reflect.Modifier.isPublic(method.getModifiers())) {
                left.add(method.getName());
            }
        }
        // These two stand in the example of feeding alone, or need none.
        left.removeAll(Set.of("feed", "cut"));
        for (String line : page.lines().toList()) {
            Matcher feed = FEED.matcher(line);
            Matcher call = CALL.matcher(line);
            if (feed.matches()) {
                Checks.feed(x, texts.get(feed.group(1).equals("first") ? 0 : 1));
            } else if (call.matches()) {
                String due = call.group(3);
                Checks.due("README.md: " + line, ask(x, call.group(1), call.group(2)),
                        REFUSALS.containsKey(due) ? REFUSALS.get(due) : Integer.parseInt(due));
                left.remove(call.group(1));
            } else if (line.startsWith("x.")) {
                Checks.due("README.md, a call without an answer: " + line, 0, 1);
            }
        }
        Checks.due("calls that README.md does not show: " + left, left.size(), 0);
        Checks.end("ReadmeTest");
    }
}
