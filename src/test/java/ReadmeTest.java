import java.io.IOException;
import java.lang.reflect.Method;
import java.nio.file.Files;
import java.nio.file.Path;
import java.util.List;
import java.util.regex.Matcher;
import java.util.regex.Pattern;

/** The examples of README.md: each call there answers what is said behind it, and no line of them is passed over. */
public final class ReadmeTest {
    private static final Due DUE = new Due("ReadmeTest");
    private static final String NEW_OBJECT = "TwoWhistlesAndFiveEwes hill = new TwoWhistlesAndFiveEwes();";
    private static final Pattern CALL = Pattern.compile("hill\\.(\\w+)\\(([-\\d, ]*)\\); +// (-?\\d+)(:.*)?");
    private static final Pattern TEXT = Pattern.compile("for \\(char letter : \"([^\"]*)\"\\.toCharArray\\(\\)\\) \\{");
    private static final List<String> FED = List.of("    hill.feed(letter);", "}");
    private static final int EXAMPLES = 3;

    private static TwoWhistlesAndFiveEwes hill;
    private static int examples;

    private static long answer(String name, String told) throws ReflectiveOperationException {
        String[] numbers = told.isEmpty() ? new String[0] : told.split(", *");
        for (Method m : TwoWhistlesAndFiveEwes.class.getDeclaredMethods()) {
            if (m.getName().equals(name) && m.getParameterCount() == numbers.length) {
                Object[] given = new Object[numbers.length];
                for (int i = 0; i < given.length; i++) {
                    boolean isLong = m.getParameterTypes()[i] == long.class;
                    given[i] = isLong ? (Object) Long.valueOf(numbers[i]) : (Object) Integer.valueOf(numbers[i]);
                }
                return ((Number) m.invoke(hill, given)).longValue();
            }
        }
        throw new NoSuchMethodException(name);
    }

    private static void line(String line) throws ReflectiveOperationException {
        Matcher call = CALL.matcher(line);
        Matcher text = TEXT.matcher(line);
        if (line.equals(NEW_OBJECT)) {
            hill = new TwoWhistlesAndFiveEwes();
            examples++;
        } else if (call.matches()) {
            DUE.is(line, answer(call.group(1), call.group(2)), Long.parseLong(call.group(3)));
        } else if (text.matches()) {
            Due.feedAll(hill, text.group(1));
        } else {
            DUE.is("a line that can be tried: " + line, FED.contains(line) ? 1 : 0, 1);
        }
    }

    public static void main(String[] args) throws IOException, ReflectiveOperationException {
        boolean isExample = false;
        for (String line : Files.readAllLines(Path.of("README.md"))) {
            if (line.startsWith("```")) {
                isExample = line.equals("```java");
            } else if (isExample) {
                line(line);
            }
        }
        DUE.is("examples", examples, EXAMPLES);
        DUE.end();
    }
}
