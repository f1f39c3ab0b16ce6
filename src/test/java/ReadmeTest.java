import java.io.IOException;
import java.lang.reflect.Method;
import java.lang.reflect.Modifier;
import java.nio.file.Files;
import java.nio.file.Path;
import java.util.Set;
import java.util.TreeSet;
import java.util.regex.Matcher;
import java.util.regex.Pattern;

/** README.md's run answers as it says there, and shows every call of the face. */
public final class ReadmeTest {
    private static final Pattern TEXT = Pattern.compile("String text = \"([^\"]*)\";");
    private static final Pattern CALL = Pattern.compile("x\\.(\\w+)\\(([-0-9, ]*)\\); +// (-?\\d+):.*");

    public static void main(String[] args) throws IOException {
        Due.sentence("README.md");
        Run run = new Run();
        Set<String> shown = new TreeSet<>();
        boolean inRun = false;
        for (String line : Files.readAllLines(Path.of("README.md"))) {
            if (line.startsWith("```")) {
                inRun = line.equals("```java");
            } else if (inRun) {
                answer(run, line, shown);
            }
        }
        for (Method m : OneJohn.class.getDeclaredMethods()) {
            if (Modifier.isPublic(m.getModifiers())) {
                Due.is("it shows " + m.getName(), shown.contains(m.getName()) ? 1 : 0, 1);
            }
        }
        Due.end();
    }

    private static void answer(Run run, String line, Set<String> shown) {
        Matcher text = TEXT.matcher(line);
        Matcher call = CALL.matcher(line);
        if (text.matches()) {
            run.type(text.group(1));
        } else if (call.matches()) {
            shown.add(call.group(1));
            run.due(Long.parseLong(call.group(3)), call.group(1), numbers(call.group(2)));
        } else if (line.startsWith("x.")) {
            Due.is("a call without its answer, " + line, 0, 1);
        }
    }

    private static int[] numbers(String listed) {
        if (listed.isEmpty()) {
            return new int[0];
        }
        String[] parts = listed.split(", ");
        int[] numbers = new int[parts.length];
        for (int i = 0; i < parts.length; i++) {
            numbers[i] = Integer.parseInt(parts[i]);
        }
        return numbers;
    }
}
