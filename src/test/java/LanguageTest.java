import java.io.IOException;
import java.lang.reflect.Constructor;
import java.lang.reflect.Field;
import java.lang.reflect.Method;
import java.lang.reflect.Modifier;
import java.nio.file.Files;
import java.nio.file.Path;
import java.util.ArrayList;
import java.util.List;
import java.util.Set;
import java.util.TreeSet;
import java.util.regex.Matcher;
import java.util.regex.Pattern;

/** The face that the document tells, and those rules of LANGUAGE.md that a reader of text can hold. */
public final class LanguageTest {
    private static final Path FILE = Path.of("src/main/java/WalkedWays.java");
    private static final int LONGEST_METHOD = 60;
    private static final int MOST_CLASSES = 12;
    private static final int MOST_FIELDS = 20;
    private static final int MOST_PARAMETERS = 7;

    private static final String[] FACE = {
        "link 3", "cut 1", "delay 2", "ofLink 2", "neighbours 1", "share 3", "floor 1", "gain 1",
        "fade 1", "raise 4", "even 2", "seed 1", "send 3", "ticks 1", "walker 2", "memory 3",
        "noted 3", "learnt 3", "shortest 2", "right 0", "many 1"};
    private static final String[] CONSTANTS = {"UNKNOWN", "OUTSIDE", "STATE", "FULL", "NONE"};
    private static final String[] FORBIDDEN = {
        "\\bthrows?\\b", "\\btry\\b", "\\bcatch\\b", "\\bfinally\\b", "\\bsynchronized\\b",
        "\\bassert\\b", "\\bimport\\b", "\\bpackage\\b", "->", "::", "@\\w", "Exact\\b",
        "\\bSystem\\b", "\\bdouble\\b", "\\bfloat\\b", "\\bObject\\b", "\\bwhile\\b", "\"",
        "\\bequals\\b", "\\bhashCode\\b", "\\btoString\\b", "static *\\{", "[^\\x00-\\x7F]"};

    private static int wrong = 0;
    private static int looked = 0;

    private LanguageTest() {
    }

    public static void main(String[] args) throws IOException {
        String text = Files.readString(FILE);
        face();
        constants();
        classes();
        forbidden(withoutRemarks(text));
        makesOnlyAtFirst(withoutRemarks(text));
        methodsAreShort(withoutRemarks(text));
        System.out.println(looked + " rules looked at, " + wrong + " broken");
        System.exit(wrong == 0 ? 0 : 1);
    }

    private static void holds(String rule, boolean held) {
        looked++;
        if (!held) {
            wrong++;
            System.out.println("broken: " + rule);
        }
    }

    private static void face() {
        Set<String> open = new TreeSet<>();
        Set<String> closed = new TreeSet<>();
        for (Method m : WalkedWays.class.getDeclaredMethods()) {
            if (Modifier.isPrivate(m.getModifiers())) {
                closed.add(m.getName());
            } else {
                open.add(m.getName() + " " + m.getParameterCount());
                holds(m + " is public and of the object", m.getModifiers() == Modifier.PUBLIC);
                holds(m + " takes and answers ints", takesInts(m));
            }
        }
        holds("the methods are the document's", open.equals(new TreeSet<>(List.of(FACE))));
        for (String told : FACE) {
            String name = told.split(" ")[0];
            holds("no private method is called " + name, !closed.contains(name));
        }
        Constructor<?>[] made = WalkedWays.class.getDeclaredConstructors();
        holds("one constructor", made.length == 1 && made[0].getParameterCount() == 0
            && Modifier.isPublic(made[0].getModifiers()));
        int kind = Modifier.PUBLIC | Modifier.FINAL;
        holds("the class is public and final", (WalkedWays.class.getModifiers() & kind) == kind);
    }

    private static boolean takesInts(Method m) {
        boolean ints = m.getReturnType() == int.class;
        for (Class<?> c : m.getParameterTypes()) {
            ints &= c == int.class;
        }
        return ints;
    }

    private static void constants() {
        Set<String> open = new TreeSet<>();
        for (Field f : WalkedWays.class.getDeclaredFields()) {
            if (!Modifier.isPrivate(f.getModifiers())) {
                open.add(f.getName());
            }
        }
        holds("the constants are the document's", open.equals(new TreeSet<>(List.of(CONSTANTS))));
        holds("UNKNOWN", WalkedWays.UNKNOWN == -1);
        holds("OUTSIDE", WalkedWays.OUTSIDE == -2);
        holds("STATE", WalkedWays.STATE == -3);
        holds("FULL", WalkedWays.FULL == -4);
        holds("NONE", WalkedWays.NONE == -9);
    }

    private static void classes() {
        List<Class<?>> all = new ArrayList<>(List.of(WalkedWays.class.getDeclaredClasses()));
        for (Class<?> c : all) {
            holds(c + " is static and not public", Modifier.isStatic(c.getModifiers())
                && !Modifier.isPublic(c.getModifiers()) && !Modifier.isProtected(c.getModifiers()));
        }
        all.add(WalkedWays.class);
        holds("few classes", all.size() <= MOST_CLASSES);
        for (Class<?> c : all) {
            int fields = 0;
            for (Field f : c.getDeclaredFields()) {
                boolean fixed = Modifier.isStatic(f.getModifiers());
                fields += fixed ? 0 : 1;
                holds(f + " is final if static", !fixed || Modifier.isFinal(f.getModifiers()));
            }
            holds("few fields in " + c, fields <= MOST_FIELDS);
            for (Method m : c.getDeclaredMethods()) {
                holds("few parameters of " + m, m.getParameterCount() <= MOST_PARAMETERS);
            }
        }
    }

    private static String withoutRemarks(String text) {
        return text.replaceAll("(?s)/\\*.*?\\*/", "").replaceAll("//[^\n]*", "");
    }

    private static void forbidden(String text) {
        for (String word : FORBIDDEN) {
            Matcher m = Pattern.compile(word).matcher(text);
            holds("without " + word, !m.find());
        }
    }

    /** Calls make nothing, so that no run can outgrow the room: fields and the constructor alone do. */
    private static void makesOnlyAtFirst(String text) {
        for (String line : text.split("\n")) {
            if (line.contains("new ")) {
                boolean ofField = line.matches("\\s+(private )?final .* = new .*;");
                boolean ofConstructor = line.matches("\\s+(rows|walkers|kinds)\\[\\w\\] = new \\w+\\(\\);");
                holds("made with the object: " + line.trim(), ofField || ofConstructor);
            }
        }
    }

    private static void methodsAreShort(String text) {
        String head = "";
        int depthOfHead = -1;
        int lines = 0;
        int depth = 0;
        for (String line : text.split("\n")) {
            if (depthOfHead < 0 && line.matches("\\s+.*\\) \\{") && !line.trim().startsWith("}")) {
                head = line.trim();
                depthOfHead = depth;
                lines = 0;
            }
            lines++;
            depth += line.length() - line.replace("{", "").length();
            depth -= line.length() - line.replace("}", "").length();
            if (depthOfHead >= 0 && depth == depthOfHead) {
                holds("short: " + head, lines <= LONGEST_METHOD);
                depthOfHead = -1;
            }
        }
    }
}
