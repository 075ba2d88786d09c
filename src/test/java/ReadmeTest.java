import java.lang.reflect.Method;
import java.nio.file.Files;
import java.nio.file.Path;
import java.util.ArrayList;
import java.util.Arrays;
import java.util.List;
import java.util.regex.Matcher;
import java.util.regex.Pattern;

/** README.md: its example answers what stands beside each call, and it names every call of the face. */
public final class ReadmeTest {
    private static final Pattern CALL = Pattern.compile("^x\\.(\\w+)\\(([-0-9, ]*)\\);\\s*// (-?\\d+):");
    private static final Pattern PAGE = Pattern.compile("^for \\(char sign : \"([^\"]*)\"");

    private ReadmeTest() {
    }

    public static void main(String[] args) throws Exception {
        String text = Files.readString(Path.of("README.md"));
        int from = text.indexOf("```java");
        int to = text.indexOf("```", from + 3);
        Due.due("README.md has an example", from >= 0 && to > from);
        if (from >= 0 && to > from) {
            example(text.substring(from, to).split("\n"));
        }
        namesAll(text);
        Due.end();
    }

    private static void example(String[] lines) throws Exception {
        ClappedWrong x = new ClappedWrong();
        int calls = 0;
        int understood = 0;
        for (String line : lines) {
            Matcher page = PAGE.matcher(line);
            if (page.find()) {
                Due.write(x, page.group(1));
            }
            Matcher call = CALL.matcher(line);
            if (call.find()) {
                Due.due(line, answer(x, call.group(1), call.group(2)), Long.parseLong(call.group(3)));
                understood++;
            }
            calls += line.startsWith("x.") ? 1 : 0;
        }
        Due.due("the example has calls", calls > 0);
        Due.due("calls that have their answer beside them", understood, calls);
    }

    private static long answer(ClappedWrong x, String name, String numbers) throws Exception {
        List<Object> given = new ArrayList<>();
        for (String number : numbers.split(",")) {
            if (!number.isBlank()) {
                given.add(Integer.parseInt(number.strip()));
            }
        }
        Class<?>[] types = new Class<?>[given.size()];
        Arrays.fill(types, int.class);
        Method method = ClappedWrong.class.getMethod(name, types);
        return ((Number) method.invoke(x, given.toArray())).longValue();
    }

    private static void namesAll(String text) {
        for (Method each : ClappedWrong.class.getMethods()) {
            if (each.getDeclaringClass() == ClappedWrong.class) {
                Due.due("README.md names " + each.getName(), text.contains("`" + each.getName() + "("));
            }
        }
    }
}
