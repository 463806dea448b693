import java.io.IOException;
import java.io.UncheckedIOException;
import java.nio.file.Files;
import java.nio.file.Path;
import java.util.regex.Matcher;
import java.util.regex.Pattern;

/**
 * Tests that each stand under the words of the document which they hold. The words must be in the
 * document, once; and at the end every sentence of its Terms and promises must have been touched.
 */
final class Sentences {
    private static final String DOCUMENT = read();
    /** A full stop that is not one of "0 .. 7", a semicolon, or the end of a line. */
    private static final Pattern SENTENCE_END = Pattern.compile("(?<!\\.)\\.(?= |\\n)|;|\\n");
    private static final boolean[] touched = new boolean[DOCUMENT.length()];

    private Sentences() {
    }

    /** Empty, if the document is not beside this checkout: then the runs alone are looked at. */
    private static String read() {
        Path file = Path.of("../shared/DOC.md");
        if (!Files.isReadable(file)) {
            System.out.println("no " + file + ": the words are not looked for in it");
            return "";
        }
        try {
            return Files.readString(file);
        } catch (IOException e) {
            throw new UncheckedIOException(e);
        }
    }

    /** Each run is a script on a new object. */
    static void hold(String words, String... runs) {
        if (!DOCUMENT.isEmpty()) {
            touch(words);
        }
        for (int n = 0; n < runs.length; n++) {
            Script.run(words + " [run " + (n + 1) + "]", runs[n]);
        }
    }

    private static void touch(String words) {
        int at = DOCUMENT.indexOf(words);
        boolean once = at >= 0 && DOCUMENT.indexOf(words, at + 1) < 0;
        Script.due("the document says, once: " + words, once ? 1 : 0, 1);
        for (int n = 0; once && n < words.length(); n++) {
            touched[at + n] = true;
        }
    }

    /** To be asked last. */
    static void allAreTouched() {
        if (DOCUMENT.isEmpty()) {
            return;
        }
        int at = DOCUMENT.indexOf("## Terms");
        int end = DOCUMENT.indexOf("## Not promised");
        Matcher stops = SENTENCE_END.matcher(DOCUMENT).region(at, end);
        while (stops.find()) {
            if (!isFrame(DOCUMENT.substring(at, stops.start()).trim())) {
                Script.due("a test for: " + DOCUMENT.substring(at, stops.start()).trim(),
                    isTouched(at, stops.start()) ? 1 : 0, 1);
            }
            at = stops.end();
        }
    }

    /** What is no sentence about the class. */
    private static boolean isFrame(String text) {
        return text.isEmpty() || text.startsWith("#") || text.startsWith("```")
            || text.startsWith("Ahead of the calls");
    }

    private static boolean isTouched(int from, int to) {
        for (int n = from; n < to; n++) {
            if (touched[n]) {
                return true;
            }
        }
        return false;
    }

    /** The line so many times. */
    static String times(int n, String line) {
        return (line + "\n").repeat(n);
    }

    /** The line for each number from low to high, put where it has a *. */
    static String each(int low, int high, String line) {
        StringBuilder lines = new StringBuilder();
        for (int n = low; n <= high; n++) {
            lines.append(line.replace("*", Integer.toString(n))).append('\n');
        }
        return lines.toString();
    }

    /** So many links, up to 28, between nodes 0 and 1, 0 and 2, and so on, with a delay of 5. */
    static String links(int n) {
        StringBuilder lines = new StringBuilder();
        int number = 0;
        for (int a = 0; a < 7; a++) {
            for (int b = a + 1; b < 8 && number < n; b++) {
                lines.append("link ").append(a).append(' ').append(b).append(" 5 = ").append(number++);
                lines.append('\n');
            }
        }
        return lines.toString();
    }
}
