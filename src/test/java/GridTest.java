import java.util.ArrayList;
import java.util.List;

/**
 * Every call with every choice of numbers at the edges of what it takes, just inside and just
 * outside: answered as the model answers, and without change where it is refused.
 */
public final class GridTest {
    private static final int LEAST = Integer.MIN_VALUE;
    private static final int MOST = Integer.MAX_VALUE;
    private static final int[] NODE = {LEAST, -1, 0, 1, 3, 7, 8, MOST};
    private static final int[] LINK = {LEAST, -1, 0, 5, 6, 15, 16, MOST};
    private static final int[] DELAY = {LEAST, -1, 0, 1, 60, 61, MOST};
    private static final int[] THOUSAND = {LEAST, -1, 0, 500, 1000, 1001, MOST};
    private static final int[] HUNDRED = {LEAST, -1, 0, 100, 101, MOST};
    private static final int[] KIND = {LEAST, -1, 0, 1, 2, 3, MOST};
    private static final int[] TICKS = {LEAST, -1, 0, 1, 200, 201, MOST};
    private static final int[] WALKER = {LEAST, -1, 0, 4, 11, 12, MOST};
    private static final int[] PLACE = {LEAST, -1, 0, 1, 2, 7, 8, MOST};
    private static final int[] ONE = {LEAST, -1, 0, 1, 2, MOST};
    private static final int[] THREE = {LEAST, -1, 0, 1, 2, 3, 4, MOST};
    private static final int[] FOUR = {LEAST, -1, 0, 1, 2, 3, 4, 5, MOST};
    private static final int[] SEVEN = {LEAST, -1, 0, 1, 2, 3, 4, 5, 6, 7, 8, MOST};
    private static final int[] EIGHT = {LEAST, -1, 0, 1, 2, 3, 4, 5, 6, 7, 8, 9, MOST};
    private static final int[] OF_WAY = {LEAST, -1, 0, 1, 2, 3, 9, 10, 11, 12, 16, 17, 18, MOST};

    private static final List<String> ASKING = List.of("ofLink", "neighbours", "share", "walker", "memory",
        "noted", "learnt", "shortest", "right", "many");
    private static final List<String> PROBES = probes();

    /** So many calls on one object that those of its making and the probes fit into its 512, too. */
    private static final int CALLS_AT_ONCE = 250;

    private final List<String> before;
    private WalkedWays real;
    private Model model;
    private final List<String> sinceMade = new ArrayList<>();

    private GridTest(List<String> before) {
        this.before = before;
        makeAnew();
    }

    public static void main(String[] args) {
        for (List<String> before : List.of(List.<String>of(), someWalkers(), allLinks(), allWalkers())) {
            GridTest test = new GridTest(before);
            test.askAll();
            test.changedNothing();
        }
        Script.end();
    }

    private static List<String> someWalkers() {
        return List.of("link 0 1 3", "link 1 3 4", "link 3 7 2", "link 7 0 9", "link 0 3 9", "floor 15",
            "gain 400", "send 0 0 3", "send 1 7 1", "send 2 1 7", "ticks 9", "send 0 3 0", "send 1 0 7",
            "raise 0 3 1 300", "ticks 2");
    }

    private static List<String> allLinks() {
        List<String> lines = new ArrayList<>();
        for (String line : Sentences.links(16).split("\n")) {
            lines.add(line.split(" =")[0]);
        }
        lines.addAll(List.of("floor 0", "raise 0 3 3 1000", "raise 1 7 7 1000", "send 0 0 3", "ticks 6"));
        return lines;
    }

    private static List<String> allWalkers() {
        List<String> lines = new ArrayList<>(List.of("link 0 1 9", "link 1 3 9", "link 7 0 9"));
        for (int n = 0; n < 12; n++) {
            lines.add("send " + n % 3 + " " + (n % 2 == 0 ? "0 1" : "7 3"));
            if (n == 6) {
                lines.add("ticks 8");
            }
        }
        return lines;
    }

    private void askAll() {
        each("link", NODE, NODE, DELAY);
        each("cut", LINK);
        each("delay", LINK, DELAY);
        each("ofLink", LINK, FOUR);
        each("neighbours", NODE);
        each("share", NODE, NODE, NODE);
        each("floor", HUNDRED);
        each("gain", THOUSAND);
        each("fade", THOUSAND);
        each("raise", NODE, NODE, NODE, THOUSAND);
        each("even", NODE, NODE);
        each("seed", THOUSAND);
        each("send", KIND, NODE, NODE);
        each("ticks", TICKS);
        each("walker", WALKER, EIGHT);
        each("memory", WALKER, PLACE, ONE);
        each("noted", NODE, NODE, THREE);
        each("learnt", NODE, NODE, OF_WAY);
        each("shortest", NODE, NODE);
        each("right");
        each("many", SEVEN);
    }

    private void each(String name, int[]... edges) {
        int together = 1;
        for (int[] numbers : edges) {
            together *= numbers.length;
        }
        for (int n = 0; n < together; n++) {
            int[] numbers = new int[edges.length];
            int rest = n;
            for (int p = 0; p < edges.length; p++) {
                numbers[p] = edges[p][rest % edges[p].length];
                rest /= edges[p].length;
            }
            ask(name, numbers);
        }
    }

    private void ask(String name, int... numbers) {
        StringBuilder call = new StringBuilder(name);
        for (int v : numbers) {
            call.append(' ').append(v);
        }
        int want = Script.call(model, name, numbers);
        boolean changes = !isRefusal(want) && !ASKING.contains(name);
        if (changes) {
            changedNothing();
        }
        Script.due(call + " after " + before, Script.call(real, name, numbers), want);
        sinceMade.add(call.toString());
        if (changes) {
            makeAnew();
        } else if (sinceMade.size() == CALLS_AT_ONCE) {
            changedNothing();
            makeAnew();
        }
    }

    private static boolean isRefusal(int answer) {
        return answer <= WalkedWays.UNKNOWN && answer >= WalkedWays.FULL;
    }

    private void makeAnew() {
        real = new WalkedWays();
        model = new Model();
        for (String line : before) {
            Script.call(real, line);
            Script.call(model, line);
        }
        sinceMade.clear();
    }

    private WalkedWays anotherReal() {
        WalkedWays x = new WalkedWays();
        before.forEach(line -> Script.call(x, line));
        return x;
    }

    /** The calls since it was made were refused or asked only. The probes use the object up. */
    private void changedNothing() {
        if (sinceMade.isEmpty()) {
            return;
        }
        WalkedWays spared = anotherReal();
        String after = " after " + before + " and then " + sinceMade;
        for (String probe : PROBES) {
            Script.due(probe + after, Script.call(real, probe), Script.call(spared, probe));
        }
        real = anotherReal();
        sinceMade.clear();
    }

    private static List<String> probes() {
        StringBuilder lines = new StringBuilder("seed 5\nfloor 20\ngain 300\n");
        lines.append(Sentences.each(0, 7, "many *")).append(Sentences.each(0, 7, "neighbours *"));
        lines.append(Sentences.each(0, 15, "ofLink * 2\nofLink * 3\nofLink * 4"));
        lines.append(Sentences.each(0, 11, "walker * 4\nwalker * 6\nwalker * 7\nmemory * 0 1"));
        for (int i : new int[] {0, 1, 3, 7}) {
            lines.append(Sentences.each(0, 7, "share " + i + " 2 *\nshare " + i + " * 3"));
        }
        lines.append(Sentences.each(0, 7, "noted * 3 0\nnoted 0 * 3"));
        lines.append("fade 100\nticks 9\nlink 5 6 4\nsend 1 0 3\nticks 60\nright\n");
        lines.append(Sentences.each(0, 7, "many *"));
        return List.of(lines.toString().split("\n"));
    }
}
