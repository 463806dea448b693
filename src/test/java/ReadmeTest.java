import java.io.IOException;
import java.lang.reflect.Method;
import java.lang.reflect.Modifier;
import java.nio.file.Files;
import java.nio.file.Path;
import java.util.regex.Matcher;
import java.util.regex.Pattern;

/** That README.md tells the truth: the answers in its example, and every call in one of its tables. */
public final class ReadmeTest {
    private static final Pattern EXAMPLE = Pattern.compile("```java\\n(.*?)```", Pattern.DOTALL);
    private static final String FIRST_LINE = "WalkedWays ways = new WalkedWays();";
    /** Such as: ways.link(1, 2, 4);   // 1: a remark */
    private static final Pattern CALL = Pattern.compile("ways\\.(\\w+)\\((.*?)\\); *// (-?\\d+)(:.*)?");

    private ReadmeTest() {
    }

    public static void main(String[] args) throws IOException {
        String text = Files.readString(Path.of("README.md"));
        example(text);
        tables(text);
        Script.end();
    }

    private static void example(String text) {
        Matcher block = EXAMPLE.matcher(text);
        holds("there is an example", block.find());
        String[] lines = block.group(1).split("\n");
        holds("the example begins with a new object", lines[0].equals(FIRST_LINE));
        StringBuilder script = new StringBuilder("\n");
        for (int n = 1; n < lines.length; n++) {
            script.append(asScript(lines[n])).append('\n');
        }
        Script.run("README.md, the example", script.toString());
    }

    private static String asScript(String line) {
        Matcher call = CALL.matcher(line);
        boolean read = call.matches();
        holds("a call with its answer: " + line, read);
        return read ? call.group(1) + " " + call.group(2).replace(",", "") + " = " + call.group(3) : "";
    }

    private static void tables(String text) {
        for (Method m : WalkedWays.class.getDeclaredMethods()) {
            if (Modifier.isPublic(m.getModifiers())) {
                String numbers = "\\w+, ".repeat(m.getParameterCount()).replaceAll(", $", "");
                Pattern row = Pattern.compile("^\\| `" + m.getName() + "\\(" + numbers + "\\)` \\| .+ \\|$",
                    Pattern.MULTILINE);
                holds("a row for " + m.getName(), row.matcher(text).find());
            }
        }
    }

    private static void holds(String what, boolean held) {
        Script.due(what, held ? 1 : 0, 1);
    }
}
