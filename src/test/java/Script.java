import java.lang.reflect.Method;
import java.util.Arrays;
import java.util.HashMap;
import java.util.Map;

/**
 * Runs of calls, a line each: "share 0 3 1 = 334" asks share(0, 3, 1) and wants 334; without "="
 * any answer will do. What follows "#" is a remark. "nextDraw n" sets the seed so that the upper 16
 * bits of the next draw are n.
 */
final class Script {
    private static final Map<Class<?>, Map<String, Method>> FACES = new HashMap<>();
    /** What an object answers after so many calls is free. */
    private static final int MOST_CALLS = 512;
    private static int asked = 0;
    private static int wrong = 0;

    private Script() {
    }

    /** Runs the lines on a new object. */
    static void run(String title, String lines) {
        WalkedWays x = new WalkedWays();
        int number = 0;
        int calls = 0;
        for (String line : lines.split("\n")) {
            number++;
            String told = line.split("#", 2)[0].trim();
            if (!told.isEmpty()) {
                runLine(title + ", line " + number, x, told);
                calls++;
            }
        }
        due(title + ": calls beyond what is promised", Math.max(0, calls - MOST_CALLS), 0);
    }

    private static void runLine(String place, WalkedWays x, String line) {
        String[] sides = line.split("=");
        int got = call(x, sides[0].trim());
        if (sides.length > 1) {
            due(place + ": " + sides[0].trim(), got, Integer.parseInt(sides[1].trim()));
        }
    }

    static void due(String what, int got, int want) {
        asked++;
        if (got != want) {
            wrong++;
            System.out.println(what + " answered " + got + ", due is " + want);
        }
    }

    /** A call such as "share 0 3 1" on an object with the document's face. */
    static int call(Object x, String told) {
        String[] words = told.split(" +");
        int[] numbers = new int[words.length - 1];
        for (int n = 0; n < numbers.length; n++) {
            numbers[n] = Integer.parseInt(words[n + 1]);
        }
        if (words[0].equals("nextDraw")) {
            return call(x, "seed", seedBefore(numbers[0] << 16));
        }
        return call(x, words[0], numbers);
    }

    static int call(Object x, String name, int... numbers) {
        Method method = faceOf(x.getClass()).get(name);
        if (method == null || method.getParameterCount() != numbers.length) {
            throw new IllegalArgumentException("no call " + name + Arrays.toString(numbers));
        }
        Object[] boxed = new Object[numbers.length];
        for (int n = 0; n < numbers.length; n++) {
            boxed[n] = numbers[n];
        }
        try {
            return (Integer) method.invoke(x, boxed);
        } catch (ReflectiveOperationException e) {
            throw new IllegalStateException(name + Arrays.toString(numbers) + " threw", e);
        }
    }

    private static Map<String, Method> faceOf(Class<?> c) {
        return FACES.computeIfAbsent(c, known -> {
            Map<String, Method> face = new HashMap<>();
            for (Method m : known.getDeclaredMethods()) {
                if (java.lang.reflect.Modifier.isPublic(m.getModifiers())) {
                    m.setAccessible(true);
                    face.put(m.getName(), m);
                }
            }
            return face;
        });
    }

    /** The seed that a draw makes into this one. */
    static int seedBefore(int after) {
        int factor = 1103515245;
        int inverse = factor;
        // Newton's step doubles how many of the lower bits of the inverse are right.
        for (int n = 0; n < 5; n++) {
            inverse *= 2 - factor * inverse;
        }
        return inverse * (after - 12345);
    }

    static void end() {
        System.out.println(asked + " answers looked at, " + wrong + " not as due");
        System.exit(wrong == 0 && asked > 0 ? 0 : 1);
    }
}
