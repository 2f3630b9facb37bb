import java.io.IOException;
import java.nio.file.Files;
import java.nio.file.Path;
import java.util.Map;
import java.util.regex.Matcher;
import java.util.regex.Pattern;

/** Every line of the examples in README.md answers what stands behind it. */
public final class ReadmeTest {
    private static final Pattern CALL =
            Pattern.compile("x\\.(\\w+)\\((.*)\\);\\s*// (-?\\d+|BAD|NO|FULL|NONE)(:.*)?");
    private static final Pattern TEXT =
            Pattern.compile("for \\(char letter : \"(.*)\"\\.toCharArray\\(\\)\\) x\\.write\\(letter\\);");
    private static final Map<String, Integer> NAMES = Map.of("BAD", FlashLanes.BAD, "NO", FlashLanes.NO, "FULL",
            FlashLanes.FULL, "NONE", FlashLanes.NONE);

    public static void main(String[] args) throws IOException, ReflectiveOperationException {
        FlashLanes x = null;
        boolean inExample = false;
        int examples = 0;
        for (String line : Files.readAllLines(Path.of("README.md"))) {
            if (line.startsWith("```")) {
                inExample = line.equals("```java");
            } else if (inExample && line.equals("FlashLanes x = new FlashLanes();")) {
                x = new FlashLanes();
                examples++;
            } else if (inExample) {
                call(x, line);
            }
        }
        Due.is("examples found, one at least", Math.min(examples, 1), 1);
        Due.end();
    }

    private static void call(FlashLanes x, String line) throws ReflectiveOperationException {
        Matcher text = TEXT.matcher(line);
        Matcher call = CALL.matcher(line);
        if (text.matches()) {
            for (char letter : text.group(1).toCharArray()) {
                x.write(letter);
            }
        } else if (call.matches()) {
            Due.is(line, answer(x, call.group(1), call.group(2)), number(call.group(3)));
        } else {
            Due.is("no call with its answer: " + line, 1, 0);
        }
    }

    private static int number(String told) {
        return NAMES.containsKey(told) ? NAMES.get(told) : Integer.parseInt(told);
    }

    private static int answer(FlashLanes x, String name, String told) throws ReflectiveOperationException {
        String[] numbers = told.isEmpty() ? new String[0] : told.split(", ");
        Class<?>[] types = new Class<?>[numbers.length];
        Object[] values = new Object[numbers.length];
        for (int i = 0; i < numbers.length; i++) {
            types[i] = int.class;
            values[i] = number(numbers[i]);
        }
        return (int) FlashLanes.class.getMethod(name, types).invoke(x, values);
    }
}
