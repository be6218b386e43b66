import java.io.IOException;
import java.lang.reflect.Method;
import java.nio.file.Files;
import java.nio.file.Path;
import java.util.TreeSet;
import java.util.regex.Matcher;
import java.util.regex.Pattern;

/** README.md shows each call at least once, and what it tells of their answers is so. */
public final class ReadmeTest {
    private static final Calls CALLS = new Calls("ReadmeTest");
    private static final String NEW = "StepsRoundCircle x = new StepsRoundCircle();";
    private static final Pattern CALL = Pattern.compile("x\\.(\\w+)\\(([-\\d, ]*)\\); // (-?\\d+)(:.*)?");
    private static final Pattern LETTERS =
            Pattern.compile("for \\(char c : \"([^\"]*)\"\\.toCharArray\\(\\)\\) \\{ x\\.letter\\(c\\); \\}");

    private final TreeSet<String> shown = new TreeSet<>();
    private StepsRoundCircle object = null;

    public static void main(String[] args) throws IOException {
        ReadmeTest test = new ReadmeTest();
        boolean inside = false;
        for (String line : Files.readAllLines(Path.of("README.md"))) {
            if (line.startsWith("```")) {
                inside = line.equals("```java");
            } else if (inside) {
                test.line(line);
            }
        }
        test.showsEveryCall();
        CALLS.end();
    }

    private void line(String line) {
        Matcher call = CALL.matcher(line);
        Matcher letters = LETTERS.matcher(line);
        if (line.equals(NEW)) {
            object = new StepsRoundCircle();
        } else if (object != null && letters.matches()) {
            shown.add("letter");
            letters.group(1).chars().forEach(object::letter);
        } else if (object != null && call.matches()) {
            shown.add(call.group(1));
            String words = call.group(1) + " " + call.group(2).replace(",", "");
            CALLS.due("README.md", line, Calls.call(object, words.trim()), Long.parseLong(call.group(3)));
        } else {
            CALLS.due("README.md: this test can't read it", line, 0, 1);
        }
    }

    private void showsEveryCall() {
        for (Method method : StepsRoundCircle.class.getDeclaredMethods()) {
            if (java.lang.reflect.Modifier.isPublic(method.getModifiers())) {
                CALLS.due("README.md shows", method.getName(), shown.contains(method.getName()) ? 1 : 0, 1);
            }
        }
    }
}
