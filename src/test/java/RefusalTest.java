import java.util.ArrayList;
import java.util.List;

/**
 * Each refusal, in its order, and that it changes nothing: of two objects with the same calls behind
 * them one is asked what must be refused, and all that can be asked of the two is answered alike.
 */
public final class RefusalTest {
    /** So many that an object stays within its 512 calls. */
    private static final int PROBES_AT_ONCE = 400;

    private static final String[] WALKERS_ABOUT = {
        "link 0 1 3", "link 1 2 4", "link 2 3 2", "link 3 4 6", "link 4 0 5", "link 0 2 9",
        "floor 15", "gain 400", "seed 99", "send 0 0 3", "send 1 0 3", "send 2 4 2", "send 0 3 0",
        "ticks 12", "send 2 0 3", "send 1 2 0", "raise 0 3 1 300", "raise 5 3 1 300", "ticks 3",
        "send 1 2 4", "delay 2 7"};

    private RefusalTest() {
    }

    public static void main(String[] args) {
        net();
        rows();
        walkers();
        whatIsLearnt();
        fullOfLinks();
        fullOfWalkers();
        Script.end();
    }

    private static void net() {
        refused(WALKERS_ABOUT, -1, "link 8 0 5", "link 0 8 5", "link -1 0 5", "link 0 -1 5",
            "link 8 8 0", "cut 6", "cut -1", "cut 16", "cut 2147483647", "delay 6 5", "delay 6 0",
            "delay -1 61", "ofLink 6 0", "ofLink 6 5", "ofLink -2147483648 0", "neighbours 8",
            "neighbours -1");
        refused(WALKERS_ABOUT, -2, "link 0 5 0", "link 0 5 61", "link 0 5 -1", "link 0 1 0",
            "link 2 2 61", "delay 0 0", "delay 0 61", "delay 0 -2147483648", "ofLink 0 5",
            "ofLink 0 -1");
        refused(WALKERS_ABOUT, -3, "link 0 1 5", "link 1 0 5", "link 5 5 5");
    }

    private static void rows() {
        refused(WALKERS_ABOUT, -1, "share 8 0 1", "share 0 8 1", "share 0 1 8", "share 0 0 8",
            "share -1 0 1", "share 8 8 0", "raise 8 0 1 5", "raise 0 8 1 5", "raise 0 1 8 5",
            "raise 0 0 -1 1001", "even 8 0", "even 0 8", "even -1 -1");
        refused(WALKERS_ABOUT, -2, "floor -1", "floor 101", "gain -1", "gain 1001", "fade -1",
            "fade 1001", "raise 0 3 1 -1", "raise 0 3 1 1001", "raise 0 0 1 1001",
            "raise 0 3 5 1001");
        refused(WALKERS_ABOUT, -3, "share 0 0 1", "share 5 5 5", "raise 0 0 1 5", "raise 0 3 5 5",
            "raise 0 3 0 5", "raise 5 5 5 0", "even 0 0");
        refused(WALKERS_ABOUT, -9, "share 0 3 5", "share 0 3 0");
    }

    private static void walkers() {
        refused(WALKERS_ABOUT, -1, "send 0 8 0", "send 0 0 8", "send 3 -1 -1", "send 3 8 0",
            "walker 11 0", "walker 11 9", "walker -1 0", "walker 12 0", "memory 11 0 0",
            "memory 11 8 2", "memory -1 0 0", "memory 12 0 0");
        refused(WALKERS_ABOUT, -2, "send 3 0 1", "send -1 0 1", "send 3 0 0", "ticks -1",
            "ticks 201", "ticks 2147483647", "walker 0 9", "walker 0 -1", "memory 0 8 0",
            "memory 0 -1 0", "memory 0 0 2", "memory 0 0 -1");
        refused(WALKERS_ABOUT, -3, "send 0 0 0", "send 2 5 5");
        refused(WALKERS_ABOUT, -9, "memory 0 7 0");
    }

    private static void whatIsLearnt() {
        refused(WALKERS_ABOUT, -1, "noted 8 0 0", "noted 0 8 0", "noted -1 -1 4", "learnt 8 0 0",
            "learnt 0 8 0", "learnt -1 -1 3", "shortest 8 0", "shortest 0 8", "shortest -1 -1");
        refused(WALKERS_ABOUT, -2, "noted 0 1 4", "noted 0 1 -1", "noted 0 0 4", "learnt 0 1 3",
            "learnt 0 1 9", "learnt 0 1 18", "learnt 0 1 -1", "learnt 0 0 3", "many 8", "many -1");
        refused(WALKERS_ABOUT, -3, "noted 0 0 0", "learnt 0 0 0", "learnt 0 0 17", "shortest 0 0");
        refused(WALKERS_ABOUT, -9, "learnt 5 0 0", "learnt 0 5 10", "shortest 0 5", "noted 5 0 1");
    }

    private static void fullOfLinks() {
        List<String> full = new ArrayList<>();
        for (int a = 0; a < 7 && full.size() < 16; a++) {
            for (int b = a + 1; b < 8 && full.size() < 16; b++) {
                full.add("link " + a + " " + b + " " + (a + b));
            }
        }
        full.add("send 0 0 3");
        String[] before = full.toArray(new String[0]);
        refused(before, -4, "link 6 7 5", "link 5 7 1");
        refused(before, -3, "link 0 1 5", "link 7 7 5");
        refused(before, -2, "link 6 7 0", "link 7 7 61");
        refused(before, -1, "link 6 8 0");
    }

    private static void fullOfWalkers() {
        List<String> full = new ArrayList<>(List.of("link 0 1 9", "link 1 2 5", "link 2 0 5"));
        for (int n = 0; n < 12; n++) {
            full.add("send " + n % 3 + " " + n % 2 + " 2");
        }
        String[] before = full.toArray(new String[0]);
        refused(before, -4, "send 0 0 1", "send 2 5 1");
        refused(before, -3, "send 0 1 1");
        refused(before, -2, "send 3 1 1", "send -1 0 1");
        refused(before, -1, "send 3 8 8");
    }

    private static void refused(String[] before, int want, String... calls) {
        for (String call : calls) {
            Script.due(call, Script.call(made(before), call), want);
            for (int from = 0; from < PROBES.size(); from += PROBES_AT_ONCE) {
                int to = Math.min(from + PROBES_AT_ONCE, PROBES.size());
                compare(before, call, PROBES.subList(from, to));
            }
        }
    }

    private static void compare(String[] before, String call, List<String> probes) {
        WalkedWays asked = made(before);
        WalkedWays spared = made(before);
        Script.call(asked, call);
        for (String probe : probes) {
            Script.due(probe + " after " + call, Script.call(asked, probe), Script.call(spared, probe));
        }
    }

    private static WalkedWays made(String[] before) {
        WalkedWays x = new WalkedWays();
        for (String line : before) {
            Script.call(x, line);
        }
        return x;
    }

    private static final List<String> PROBES = allProbes();

    private static List<String> allProbes() {
        List<String> all = new ArrayList<>();
        // These change something, but alike in both; the first of them show numbers that no call tells.
        all.addAll(List.of("seed 5", "floor 20", "gain 300", "seed 99", "right"));
        add(all, "many", 8);
        add(all, "neighbours", 8);
        add(all, "ofLink", 16, 5);
        add(all, "walker", 12, 9);
        add(all, "memory", 12, 8, 2);
        add(all, "noted", 8, 8, 4);
        add(all, "share", 8, 8, 8);
        add(all, "shortest", 8, 8);
        add(all, "learnt", 8, 8, 3);
        all.addAll(List.of("ticks 9", "send 1 0 2", "link 6 7 4", "cut 2", "fade 100", "ticks 60"));
        add(all, "many", 8);
        add(all, "share", 4, 4, 4);
        return all;
    }

    private static void add(List<String> all, String call, int... counts) {
        int together = 1;
        for (int count : counts) {
            together *= count;
        }
        for (int n = 0; n < together; n++) {
            StringBuilder line = new StringBuilder(call);
            int rest = n;
            for (int count : counts) {
                line.append(' ').append(rest % count);
                rest /= count;
            }
            all.add(line.toString());
        }
    }
}
