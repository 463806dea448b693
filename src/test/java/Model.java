import java.util.ArrayList;
import java.util.Arrays;
import java.util.Comparator;
import java.util.List;
import java.util.Map;
import java.util.TreeMap;
import java.util.TreeSet;

/**
 * The document once more, told slowly with the library's collections and by other means than the
 * class uses, so that ModelTest can hold the two against each other.
 */
final class Model {
    private static final int UNKNOWN = -1;
    private static final int OUTSIDE = -2;
    private static final int STATE = -3;
    private static final int FULL = -4;
    private static final int NONE = -9;

    private static final class Walker {
        int kind;
        int start;
        int aim;
        boolean back;
        int link;
        int to;
        int due;
        int begun;
        int aimTime;
        /** Node and time. */
        List<int[]> memory = new ArrayList<>();

        int indexOf(int node) {
            for (int n = 0; n < memory.size(); n++) {
                if (memory.get(n)[0] == node) {
                    return n;
                }
            }
            return -1;
        }
    }

    /** Link number to lesser node, greater node, delay. */
    private final TreeMap<Integer, int[]> links = new TreeMap<>();
    private final Map<String, TreeMap<Integer, Integer>> rows = new TreeMap<>();
    private final Map<String, List<Integer>> notes = new TreeMap<>();
    private final TreeMap<Integer, Walker> walkers = new TreeMap<>();
    private int floor = 20;
    private int gain = 300;
    private int seed = 1;
    private int time;
    private int done;
    private int lost;
    private int trips;
    private int draws;

    Model() {
        for (int i = 0; i < 8; i++) {
            anew(i);
        }
    }

    private static String key(int i, int d) {
        return i + ">" + d;
    }

    private static boolean nodes(int... all) {
        return Arrays.stream(all).allMatch(i -> i >= 0 && i <= 7);
    }

    private static boolean within(int v, int low, int high) {
        return low <= v && v <= high;
    }

    private TreeSet<Integer> near(int i) {
        TreeSet<Integer> set = new TreeSet<>();
        for (int[] l : links.values()) {
            if (l[0] == i) {
                set.add(l[1]);
            }
            if (l[1] == i) {
                set.add(l[0]);
            }
        }
        return set;
    }

    private Integer linkOf(int a, int b) {
        for (Map.Entry<Integer, int[]> e : links.entrySet()) {
            int[] l = e.getValue();
            if (l[0] == a && l[1] == b || l[0] == b && l[1] == a) {
                return e.getKey();
            }
        }
        return null;
    }

    private static int leastFree(TreeMap<Integer, ?> used) {
        int n = 0;
        while (used.containsKey(n)) {
            n++;
        }
        return n;
    }

    private void anew(int i) {
        for (int d = 0; d < 8; d++) {
            if (d != i) {
                notes.put(key(i, d), new ArrayList<>());
                makeEven(i, d);
            }
        }
    }

    private void makeEven(int i, int d) {
        TreeMap<Integer, Integer> row = new TreeMap<>();
        List<Integer> all = new ArrayList<>(near(i));
        for (int n = 0; n < all.size(); n++) {
            row.put(all.get(n), 1000 / all.size() + (n < 1000 % all.size() ? 1 : 0));
        }
        rows.put(key(i, d), row);
    }

    private static TreeMap<Integer, Integer> sharedOut(long r, TreeMap<Integer, Long> v) {
        long sum = v.values().stream().mapToLong(Long::longValue).sum();
        TreeMap<Integer, Integer> parts = new TreeMap<>();
        v.forEach((k, x) -> parts.put(k, (int) (r * x / sum)));
        List<Integer> order = new ArrayList<>(v.keySet());
        order.sort(Comparator.comparingLong((Integer k) -> -(r * v.get(k) % sum)));
        long left = r - parts.values().stream().mapToInt(Integer::intValue).sum();
        for (int n = 0; n < left; n++) {
            parts.merge(order.get(n), 1, Integer::sum);
        }
        return parts;
    }

    private static int greatest(TreeMap<Integer, Integer> row) {
        int most = row.values().stream().mapToInt(Integer::intValue).max().orElse(NONE);
        for (int k : row.keySet()) {
            if (row.get(k) == most) {
                return k;
            }
        }
        return NONE;
    }

    private void lifted(TreeMap<Integer, Integer> row) {
        while (true) {
            Integer low = row.keySet().stream().filter(k -> row.get(k) < floor).findFirst().orElse(null);
            if (low == null) {
                return;
            }
            int took = floor - row.get(low);
            row.put(low, floor);
            row.merge(greatest(row), -took, Integer::sum);
        }
    }

    private void raised(int i, int d, int k, int r) {
        TreeMap<Integer, Integer> row = rows.get(key(i, d));
        if (row.size() == 1) {
            return;
        }
        int s = row.get(k);
        int up = s + (1000 - s) * r / 1000;
        TreeMap<Integer, Long> others = new TreeMap<>();
        row.forEach((j, x) -> others.put(j, (long) x));
        others.remove(k);
        if (s < 1000) {
            row.putAll(sharedOut(1000 - up, others));
        }
        row.put(k, up);
        lifted(row);
    }

    public int link(int a, int b, int delay) {
        if (!nodes(a, b)) {
            return UNKNOWN;
        }
        if (!within(delay, 1, 60)) {
            return OUTSIDE;
        }
        if (a == b || linkOf(a, b) != null) {
            return STATE;
        }
        if (links.size() == 16) {
            return FULL;
        }
        int l = leastFree(links);
        links.put(l, new int[] {Math.min(a, b), Math.max(a, b), delay});
        anew(a);
        anew(b);
        return l;
    }

    public int cut(int l) {
        int[] gone = links.remove(l);
        if (gone == null) {
            return UNKNOWN;
        }
        int before = walkers.size();
        walkers.values().removeIf(w -> w.link == l);
        lost += before - walkers.size();
        anew(gone[0]);
        anew(gone[1]);
        return before - walkers.size();
    }

    public int delay(int l, int v) {
        if (!links.containsKey(l)) {
            return UNKNOWN;
        }
        if (!within(v, 1, 60)) {
            return OUTSIDE;
        }
        int was = links.get(l)[2];
        links.get(l)[2] = v;
        return was;
    }

    private int on(int l, boolean back) {
        return (int) walkers.values().stream().filter(w -> w.link == l && w.back == back).count();
    }

    public int ofLink(int l, int what) {
        if (!links.containsKey(l)) {
            return UNKNOWN;
        }
        if (!within(what, 0, 4)) {
            return OUTSIDE;
        }
        return what < 3 ? links.get(l)[what] : on(l, what == 4);
    }

    private static int bits(Iterable<Integer> set) {
        int bits = 0;
        for (int k : set) {
            bits |= 1 << k;
        }
        return bits;
    }

    public int neighbours(int i) {
        return nodes(i) ? bits(near(i)) : UNKNOWN;
    }

    public int share(int i, int d, int k) {
        if (!nodes(i, d, k)) {
            return UNKNOWN;
        }
        return i == d ? STATE : rows.get(key(i, d)).getOrDefault(k, NONE);
    }

    public int floor(int v) {
        if (!within(v, 0, 100)) {
            return OUTSIDE;
        }
        int was = floor;
        floor = v;
        return was;
    }

    public int gain(int v) {
        if (!within(v, 0, 1000)) {
            return OUTSIDE;
        }
        int was = gain;
        gain = v;
        return was;
    }

    public int fade(int e) {
        if (!within(e, 0, 1000)) {
            return OUTSIDE;
        }
        int changed = 0;
        for (TreeMap<Integer, Integer> row : rows.values()) {
            if (row.isEmpty()) {
                continue;
            }
            TreeMap<Integer, Integer> before = new TreeMap<>(row);
            TreeMap<Integer, Long> v = new TreeMap<>();
            before.forEach((k, s) -> v.put(k, 1L * s * (1000 - e) * before.size() + 1000L * e));
            row.putAll(sharedOut(1000, v));
            lifted(row);
            changed += (int) row.keySet().stream().filter(k -> !row.get(k).equals(before.get(k))).count();
        }
        return changed;
    }

    public int raise(int i, int d, int k, int r) {
        if (!nodes(i, d, k)) {
            return UNKNOWN;
        }
        if (!within(r, 0, 1000)) {
            return OUTSIDE;
        }
        if (i == d || !near(i).contains(k)) {
            return STATE;
        }
        raised(i, d, k, r);
        return rows.get(key(i, d)).get(k);
    }

    public int even(int i, int d) {
        if (!nodes(i, d)) {
            return UNKNOWN;
        }
        if (i == d) {
            return STATE;
        }
        makeEven(i, d);
        return near(i).size();
    }

    public int seed(int v) {
        int was = seed;
        seed = v;
        return was;
    }

    private int draw(int m) {
        draws++;
        seed = (int) ((1103515245L * (seed & 0xFFFFFFFFL) + 12345L) & 0xFFFFFFFFL);
        return (int) ((seed & 0xFFFFFFFFL) / 65536 % m);
    }

    private int weight(Walker w, int at, int k) {
        int s = rows.get(key(at, w.aim)).get(k);
        return w.kind == 0 ? s : s / (1 + on(linkOf(at, k), false));
    }

    private int picked(Walker w, int at) {
        List<Integer> all = new ArrayList<>(near(at));
        List<Integer> strange = new ArrayList<>(all);
        strange.removeIf(k -> w.indexOf(k) >= 0);
        List<Integer> choice = strange.isEmpty() ? all : strange;
        List<Integer> lots = new ArrayList<>();
        for (int k : choice) {
            for (int n = weight(w, at, k); n > 0; n--) {
                lots.add(k);
            }
        }
        return lots.isEmpty() ? choice.get(0) : lots.get(draw(lots.size()));
    }

    /** Whether it goes on. */
    private boolean goesOut(Walker w, int at) {
        w.link = NONE;
        if (near(at).isEmpty() || w.begun == 24) {
            lost++;
            return false;
        }
        w.to = picked(w, at);
        int l = linkOf(at, w.to);
        w.due = time + links.get(l)[2] + on(l, false);
        w.link = l;
        w.begun++;
        return true;
    }

    private boolean goesBack(Walker w, int at) {
        int next = w.memory.get(w.indexOf(at) - 1)[0];
        Integer l = linkOf(at, next);
        if (l == null) {
            lost++;
            return false;
        }
        w.link = l;
        w.to = next;
        w.due = time + 1;
        return true;
    }

    /** Whether it goes on from the node to which it comes. */
    private boolean comes(Walker w) {
        int at = w.to;
        if (!w.back) {
            int known = w.indexOf(at);
            if (known >= 0) {
                w.memory = new ArrayList<>(w.memory.subList(0, known + 1));
            } else {
                w.memory.add(new int[] {at, time});
            }
            if (at != w.aim) {
                return goesOut(w, at);
            }
            w.back = true;
            w.aimTime = time;
            return goesBack(w, at);
        }
        int place = w.indexOf(at);
        int t = w.aimTime - w.memory.get(place)[1];
        List<Integer> noted = notes.get(key(at, w.aim));
        noted.add(t);
        if (noted.size() > 8) {
            noted.remove(0);
        }
        int reward = gain * noted.stream().mapToInt(Integer::intValue).min().orElseThrow() / t;
        if (w.kind == 2) {
            reward += (1000 - reward) / 4;
        }
        raised(at, w.aim, w.memory.get(place + 1)[0], reward);
        if (at == w.start) {
            done++;
            trips += t;
            return false;
        }
        return goesBack(w, at);
    }

    public int send(int kind, int from, int aim) {
        if (!nodes(from, aim)) {
            return UNKNOWN;
        }
        if (!within(kind, 0, 2)) {
            return OUTSIDE;
        }
        if (from == aim) {
            return STATE;
        }
        if (walkers.size() == 12) {
            return FULL;
        }
        Walker w = new Walker();
        w.kind = kind;
        w.start = from;
        w.aim = aim;
        w.memory.add(new int[] {from, time});
        if (!goesOut(w, from)) {
            return NONE;
        }
        int number = leastFree(walkers);
        walkers.put(number, w);
        return number;
    }

    public int ticks(int n) {
        if (!within(n, 0, 200)) {
            return OUTSIDE;
        }
        int before = done;
        for (int t = 0; t < n; t++) {
            time++;
            for (int number : new ArrayList<>(walkers.keySet())) {
                Walker w = walkers.get(number);
                if (w.due == time && !comes(w)) {
                    walkers.remove(number);
                }
            }
        }
        return done - before;
    }

    public int walker(int w, int what) {
        Walker x = walkers.get(w);
        if (x == null) {
            return UNKNOWN;
        }
        if (!within(what, 0, 8)) {
            return OUTSIDE;
        }
        return new int[] {x.kind, x.start, x.aim, x.back ? 1 : 0, x.link, x.to, x.due,
            x.memory.size(), x.begun}[what];
    }

    public int memory(int w, int k, int what) {
        Walker x = walkers.get(w);
        if (x == null) {
            return UNKNOWN;
        }
        if (!within(k, 0, 7) || !within(what, 0, 1)) {
            return OUTSIDE;
        }
        return k < x.memory.size() ? x.memory.get(k)[what] : NONE;
    }

    public int noted(int i, int d, int what) {
        if (!nodes(i, d)) {
            return UNKNOWN;
        }
        if (!within(what, 0, 3)) {
            return OUTSIDE;
        }
        if (i == d) {
            return STATE;
        }
        List<Integer> all = notes.get(key(i, d));
        return switch (what) {
            case 0 -> all.size();
            case 1 -> all.stream().mapToInt(Integer::intValue).min().orElse(NONE);
            case 2 -> all.isEmpty() ? NONE : all.get(all.size() - 1);
            default -> all.stream().mapToInt(Integer::intValue).sum();
        };
    }

    private List<Integer> learntWay(int from, int aim) {
        List<Integer> way = new ArrayList<>(List.of(from));
        while (way.get(way.size() - 1) != aim) {
            int next = greatest(rows.get(key(way.get(way.size() - 1), aim)));
            if (next == NONE || way.contains(next)) {
                return null;
            }
            way.add(next);
        }
        return way;
    }

    public int learnt(int from, int aim, int what) {
        if (!nodes(from, aim)) {
            return UNKNOWN;
        }
        if (!within(what, 0, 2) && !within(what, 10, 17)) {
            return OUTSIDE;
        }
        if (from == aim) {
            return STATE;
        }
        List<Integer> way = learntWay(from, aim);
        if (way == null) {
            return NONE;
        }
        if (what == 0) {
            int sum = 0;
            for (int n = 1; n < way.size(); n++) {
                sum += links.get(linkOf(way.get(n - 1), way.get(n)))[2];
            }
            return sum;
        }
        if (what == 1) {
            return way.size() - 1;
        }
        if (what == 2) {
            return bits(way);
        }
        return what - 10 < way.size() ? way.get(what - 10) : NONE;
    }

    /** All ways without a node twice, one after the other. */
    private int least(int from, int aim, TreeSet<Integer> met) {
        if (from == aim) {
            return 0;
        }
        int best = Integer.MAX_VALUE;
        for (int k : near(from)) {
            if (met.add(k)) {
                int rest = least(k, aim, met);
                met.remove(k);
                if (rest != Integer.MAX_VALUE) {
                    best = Math.min(best, rest + links.get(linkOf(from, k))[2]);
                }
            }
        }
        return best;
    }

    private int leastOrNone(int from, int aim) {
        int best = least(from, aim, new TreeSet<>(List.of(from)));
        return best == Integer.MAX_VALUE ? NONE : best;
    }

    public int shortest(int from, int aim) {
        if (!nodes(from, aim)) {
            return UNKNOWN;
        }
        return from == aim ? STATE : leastOrNone(from, aim);
    }

    public int right() {
        int[][] all = new int[8][8];
        for (int i = 0; i < 8; i++) {
            for (int d = 0; d < 8; d++) {
                all[i][d] = leastOrNone(i, d);
            }
        }
        int count = 0;
        for (int i = 0; i < 8; i++) {
            for (int d = 0; d < 8; d++) {
                if (i == d || all[i][d] == NONE) {
                    continue;
                }
                int k = greatest(rows.get(key(i, d)));
                if (links.get(linkOf(i, k))[2] + all[k][d] == all[i][d]) {
                    count++;
                }
            }
        }
        return count;
    }

    public int many(int what) {
        if (!within(what, 0, 7)) {
            return OUTSIDE;
        }
        int out = (int) walkers.values().stream().filter(w -> !w.back).count();
        return new int[] {links.size(), walkers.size(), out, done, lost, time, trips, draws}[what];
    }
}
