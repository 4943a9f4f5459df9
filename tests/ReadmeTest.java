import java.io.IOException;
import java.nio.file.Files;
import java.nio.file.Path;
import java.util.ArrayList;
import java.util.List;
import java.util.regex.Matcher;
import java.util.regex.Pattern;

/** The calls that README.md shows answer what stands behind them, and they show each method of the face. */
public final class ReadmeTest {
    private static final Pattern CALL = Pattern.compile("x\\.(\\w+)\\(([^)]*)\\);\\s*// (-?\\d+)(:.*)?");
    private static final List<String> SHOWN = new ArrayList<>();

    public static void main(String[] args) throws IOException {
        Calls.sentence("GroupsByRelations");
        Calls calls = Calls.play("");
        boolean isCode = false;
        for (String line : Files.readAllLines(Path.of("README.md"))) {
            if (line.startsWith("```")) {
                isCode = line.equals("```java");
            } else if (isCode && line.startsWith("x.")) {
                show(calls, line);
            }
        }
        for (java.lang.reflect.Method m : GroupsByRelations.class.getDeclaredMethods()) {
            boolean isFace = java.lang.reflect.Modifier.isPublic(m.getModifiers());
            Calls.must(!isFace || SHOWN.contains(m.getName()), m.getName() + " is shown in README.md");
        }
        Calls.end();
    }

    private static void show(Calls calls, String line) {
        Matcher m = CALL.matcher(line);
        Calls.must(m.matches(), "README.md tells what it answers: " + line);
        if (m.matches()) {
            SHOWN.add(m.group(1));
            calls.then(m.group(1) + " " + numbers(m.group(2)) + " = " + m.group(3));
        }
    }

    /** Arguments as the lines of the tests tell them: parted by blanks, longs as plain numbers. */
    private static String numbers(String arguments) {
        List<String> words = new ArrayList<>();
        for (String each : arguments.split(",")) {
            if (!each.isBlank()) {
                words.add("" + Long.decode(each.trim().replace("L", "")));
            }
        }
        return String.join(" ", words);
    }
}
