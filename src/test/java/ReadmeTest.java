import java.io.File;
import java.io.IOException;
import java.lang.reflect.Method;
import java.nio.file.Files;
import java.nio.file.Path;
import java.util.HashMap;
import java.util.Map;
import java.util.regex.Matcher;
import java.util.regex.Pattern;

/** What README.md says: its example answers what stands behind each call, and it names each call and each test. */
public final class ReadmeTest {
    private static final Check check = new Check("ReadmeTest");
    private static final Pattern STEP = Pattern.compile("(?:int (\\w+) = )?chip\\.(\\w+)\\((.*)\\); +// '?([^':]+)'?: .+");

    public static void main(String[] args) throws IOException, ReflectiveOperationException {
        String readme = Files.readString(Path.of("README.md"));
        itsExample(readme);
        for (Method method : Both.METHODS) {
            check.yes("names " + method.getName(), readme.contains("`" + method.getName() + "("));
        }
        for (File file : new File("src/test/java").listFiles()) {
            String name = file.getName().replace(".java", "");
            check.yes("names " + name, !name.endsWith("Test") || readme.contains("| " + name + " |"));
        }
        check.finish();
    }

    private static void itsExample(String readme) throws ReflectiveOperationException {
        String code = readme.substring(readme.indexOf("```java\n") + 8);
        String[] lines = code.substring(0, code.indexOf("```")).split("\n");
        check.same("the first line", "Wattgovern chip = new Wattgovern();", lines[0]);
        Wattgovern chip = new Wattgovern();
        Map<String, String> values = new HashMap<>();
        for (int i = 1; i < lines.length; i++) {
            Matcher step = STEP.matcher(lines[i]);
            if (!step.matches()) {
                check.same("a call with its answer", "", lines[i]);
                continue;
            }
            Method method = Both.named(step.group(2));
            Class<?>[] types = method.getParameterTypes();
            Object[] given = new Object[types.length];
            for (int k = 0; k < types.length; k++) {
                String text = step.group(3).split(", ")[k];
                text = values.getOrDefault(text, text);
                given[k] = types[k] == char.class ? (Object) text.charAt(1) : (Object) Integer.valueOf(text);
            }
            String answer = String.valueOf(method.invoke(chip, given));
            check.same(lines[i], step.group(4), answer);
            values.put(String.valueOf(step.group(1)), answer);
        }
    }
}
