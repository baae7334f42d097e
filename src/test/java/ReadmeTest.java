import java.io.IOException;
import java.lang.reflect.InvocationTargetException;
import java.lang.reflect.Method;
import java.lang.reflect.Modifier;
import java.nio.file.Files;
import java.nio.file.Path;
import java.util.Set;
import java.util.TreeSet;
import java.util.regex.Matcher;
import java.util.regex.Pattern;

/** The example of README.md has each kind of call, and answers as it says. */
public final class ReadmeTest {
    private static final Pattern EXAMPLE = Pattern.compile("```java\n(.*?)```", Pattern.DOTALL);
    private static final Pattern CALL = Pattern.compile("water\\.(\\w+)\\(([-0-9, ]*)\\); +// (.+)");
    private static final String MADE = "ArchWater water = new ArchWater();";

    private static final ArchWater WATER = new ArchWater();

    public static void main(String[] args) throws IOException {
        String readme = Files.readString(Path.of("README.md"));
        Matcher example = EXAMPLE.matcher(readme);
        Check.due("README.md has an example", example.find() ? 1 : 0, 1);
        Set<String> shown = runLines(example.group(1).split("\n"));
        Check.dueText("the calls of the example", shown.toString(), callsOfFace().toString());
        Check.due("README.md tells how to run the tests", readme.contains("\n.ci/run\n") ? 1 : 0, 1);
        Check.end();
    }

    private static Set<String> runLines(String[] lines) {
        Set<String> shown = new TreeSet<>();
        Check.dueText("the first line", lines[0].substring(0, MADE.length()), MADE);
        for (int i = 1; i < lines.length; i++) {
            Matcher call = CALL.matcher(lines[i]);
            if (call.matches()) {
                shown.add(call.group(1));
                String said = call.group(3).split(" - ")[0];
                Check.dueText(lines[i], answer(call.group(1), call.group(2)), said);
            } else {
                Check.due("a line without a call: " + lines[i], isText(lines[i]) ? 1 : 0, 1);
            }
        }
        return shown;
    }

    private static boolean isText(String line) {
        return line.isEmpty() || line.startsWith("//");
    }

    private static String answer(String name, String given) {
        String[] numbers = given.isEmpty() ? new String[0] : given.split(", *");
        Class<?>[] types = new Class<?>[numbers.length];
        Object[] values = new Object[numbers.length];
        for (int i = 0; i < numbers.length; i++) {
            types[i] = int.class;
            values[i] = Integer.valueOf(numbers[i]);
        }
        try {
            return ArchWater.class.getMethod(name, types).invoke(WATER, values).toString();
        } catch (InvocationTargetException e) {
            return "throws " + e.getCause().getClass().getSimpleName();
        } catch (NoSuchMethodException | IllegalAccessException e) {
            return "there is no such call";
        }
    }

    private static Set<String> callsOfFace() {
        Set<String> calls = new TreeSet<>();
        for (Method method : ArchWater.class.getDeclaredMethods()) {
            if (Modifier.isPublic(method.getModifiers())) {
                calls.add(method.getName());
            }
        }
        return calls;
    }
}
