import java.io.IOException;
import java.lang.reflect.Method;
import java.nio.file.Files;
import java.nio.file.Path;
import java.util.Arrays;
import java.util.HashSet;
import java.util.Set;
import java.util.regex.Matcher;
import java.util.regex.Pattern;

/** README.md shows calls with the answers that they give, and names every call of the face. */
public final class ReadmeTest {
    private static final Path README = Path.of("README.md");
    private static final Pattern SHOWN = Pattern.compile("^x\\.(\\w+)\\(([-\\d, ]*)\\);\\s*// (-?\\d+)");
    private static final Pattern NAMED = Pattern.compile("`(\\w+)\\(");

    private static final Checks checks = new Checks();

    public static void main(String[] args) throws IOException, ReflectiveOperationException {
        shownCallsAnswerAsShown();
        everyCallIsNamed();
        checks.end();
    }

    private static void shownCallsAnswerAsShown() throws IOException, ReflectiveOperationException {
        TwoColours x = new TwoColours();
        int shown = 0;
        for (String line : Files.readAllLines(README)) {
            Matcher call = SHOWN.matcher(line);
            if (call.find()) {
                shown++;
                checks.due(line, answer(x, call.group(1), numbers(call.group(2))), Long.parseLong(call.group(3)));
            } else if (line.startsWith("x.")) {
                checks.report("no answer is shown: " + line);
            }
        }
        if (shown == 0) {
            checks.report("README.md shows no calls");
        }
    }

    private static Object[] numbers(String told) {
        return Arrays.stream(told.split(",")).map(String::strip).filter(text -> !text.isEmpty())
                .map(Integer::valueOf).toArray();
    }

    private static long answer(TwoColours x, String name, Object[] numbers) throws ReflectiveOperationException {
        Class<?>[] types = new Class<?>[numbers.length];
        Arrays.fill(types, int.class);
        Method method = TwoColours.class.getMethod(name, types);
        return ((Number) method.invoke(x, numbers)).longValue();
    }

    private static void everyCallIsNamed() throws IOException {
        Set<String> named = new HashSet<>();
        Matcher names = NAMED.matcher(Files.readString(README));
        while (names.find()) {
            named.add(names.group(1));
        }
        for (Method method : TwoColours.class.getMethods()) {
            if (method.getDeclaringClass() == TwoColours.class && !named.contains(method.getName())) {
                checks.report("README.md does not name " + method.getName());
            }
        }
    }
}
