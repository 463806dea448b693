/**
 * Ways learnt by small walkers. The promises are numbered in ../shared/DOC.md; README.md tells how
 * to use the class. Everything that a call needs is made with the object: no call makes anything.
 */
public final class WalkedWays {
    public static final int UNKNOWN = -1, OUTSIDE = -2, STATE = -3, FULL = -4, NONE = -9;

    private static final int NODES = 8;
    private static final int MOST_LINKS = 16;
    private static final int LONGEST_DELAY = 60;
    private static final int MOST_WALKERS = 12;
    private static final int MOST_BEGUN = 24;
    private static final int MOST_TICKS = 200;
    private static final int MOST_NOTES = 8;
    private static final int HIGHEST_FLOOR = 100;
    private static final int WHOLE = 1000;
    private static final int KINDS = 3;
    private static final int FIRST_NODE_OF_WAY = 10;

    private final Net net = new Net();
    private final Row[] rows = new Row[NODES * NODES];
    private final Sharing sharing = new Sharing();
    private final Walker[] walkers = new Walker[MOST_WALKERS];
    private final Plain[] kinds = new Plain[KINDS];
    private final Dice dice = new Dice();
    private final int[] weights = new int[NODES];
    private final int[] way = new int[NODES];
    private int lowestShare = 20;
    private int rewardOfBest = 300;
    private int time = 0;
    private int doneSoFar = 0;
    private int lostSoFar = 0;
    private int tripsSoFar = 0;

    public WalkedWays() {
        // A node's row for itself is made too, and never told of: so no place is empty.
        for (int n = 0; n < NODES * NODES; n++) {
            rows[n] = new Row();
        }
        for (int n = 0; n < MOST_WALKERS; n++) {
            walkers[n] = new Walker();
        }
        kinds[0] = new Plain();
        kinds[1] = new Heedful();
        kinds[2] = new Eager();
    }

    // ---- 1 the net, rows

    public int link(int a, int b, int delay) {
        if (!isNode(a) || !isNode(b)) {
            return UNKNOWN;
        }
        if (!isDelay(delay)) {
            return OUTSIDE;
        }
        if (a == b || net.between(a, b) != NONE) {
            return STATE;
        }
        int l = net.freeNumber();
        if (l == NONE) {
            return FULL;
        }
        net.join(l, a, b, delay);
        startRowsAnew(a);
        startRowsAnew(b);
        return l;
    }

    public int cut(int l) {
        if (!net.has(l)) {
            return UNKNOWN;
        }
        int gone = loseAllOn(l);
        net.part(l);
        startRowsAnew(net.lesser[l]);
        startRowsAnew(net.greater[l]);
        return gone;
    }

    public int delay(int l, int v) {
        if (!net.has(l)) {
            return UNKNOWN;
        }
        if (!isDelay(v)) {
            return OUTSIDE;
        }
        int was = net.delays[l];
        net.delays[l] = v;
        return was;
    }

    public int ofLink(int l, int what) {
        if (!net.has(l)) {
            return UNKNOWN;
        }
        switch (what) {
            case 0: return net.lesser[l];
            case 1: return net.greater[l];
            case 2: return net.delays[l];
            case 3: return countOn(l, false);
            case 4: return countOn(l, true);
            default: return OUTSIDE;
        }
    }

    public int neighbours(int i) {
        return isNode(i) ? net.near[i] : UNKNOWN;
    }

    public int share(int i, int d, int k) {
        if (!isNode(i) || !isNode(d) || !isNode(k)) {
            return UNKNOWN;
        }
        if (i == d) {
            return STATE;
        }
        return isIn(net.near[i], k) ? rowOf(i, d).shares[k] : NONE;
    }

    public int floor(int v) {
        if (v < 0 || v > HIGHEST_FLOOR) {
            return OUTSIDE;
        }
        int was = lowestShare;
        lowestShare = v;
        return was;
    }

    public int gain(int v) {
        if (!isOfWhole(v)) {
            return OUTSIDE;
        }
        int was = rewardOfBest;
        rewardOfBest = v;
        return was;
    }

    public int fade(int e) {
        if (!isOfWhole(e)) {
            return OUTSIDE;
        }
        int changed = 0;
        for (int i = 0; i < NODES; i++) {
            for (int d = 0; d < NODES; d++) {
                if (i != d) {
                    changed += rowOf(i, d).fadeBy(e, lowestShare, sharing);
                }
            }
        }
        return changed;
    }

    public int raise(int i, int d, int k, int r) {
        if (!isNode(i) || !isNode(d) || !isNode(k)) {
            return UNKNOWN;
        }
        if (!isOfWhole(r)) {
            return OUTSIDE;
        }
        if (i == d || !isIn(net.near[i], k)) {
            return STATE;
        }
        Row row = rowOf(i, d);
        row.raiseBy(k, r, lowestShare, sharing);
        return row.shares[k];
    }

    public int even(int i, int d) {
        if (!isNode(i) || !isNode(d)) {
            return UNKNOWN;
        }
        if (i == d) {
            return STATE;
        }
        rowOf(i, d).becomeEven();
        return Integer.bitCount(net.near[i]);
    }

    // ---- 2 walkers

    public int seed(int v) {
        int was = dice.state;
        dice.state = v;
        return was;
    }

    public int send(int kind, int from, int aim) {
        if (!isNode(from) || !isNode(aim)) {
            return UNKNOWN;
        }
        if (kind < 0 || kind >= KINDS) {
            return OUTSIDE;
        }
        if (from == aim) {
            return STATE;
        }
        int number = freeWalker();
        if (number == NONE) {
            return FULL;
        }
        Walker w = walkers[number];
        w.setOut(kind, from, aim, time);
        goOn(w, from);
        return w.walks ? number : NONE;
    }

    public int ticks(int n) {
        if (n < 0 || n > MOST_TICKS) {
            return OUTSIDE;
        }
        int doneBefore = doneSoFar;
        for (int t = 0; t < n; t++) {
            passTick();
        }
        return doneSoFar - doneBefore;
    }

    public int walker(int w, int what) {
        if (!isWalker(w)) {
            return UNKNOWN;
        }
        Walker one = walkers[w];
        switch (what) {
            case 0: return one.kind;
            case 1: return one.start;
            case 2: return one.aim;
            case 3: return one.isBack ? 1 : 0;
            case 4: return one.onLink;
            case 5: return one.to;
            case 6: return one.due;
            case 7: return one.remembered;
            case 8: return one.begun;
            default: return OUTSIDE;
        }
    }

    public int memory(int w, int k, int what) {
        if (!isWalker(w)) {
            return UNKNOWN;
        }
        if (k < 0 || k >= NODES || what < 0 || what > 1) {
            return OUTSIDE;
        }
        Walker one = walkers[w];
        if (k >= one.remembered) {
            return NONE;
        }
        return what == 0 ? one.nodes[k] : one.times[k];
    }

    // ---- 3 what is learnt

    public int noted(int i, int d, int what) {
        if (!isNode(i) || !isNode(d)) {
            return UNKNOWN;
        }
        if (what < 0 || what > 3) {
            return OUTSIDE;
        }
        if (i == d) {
            return STATE;
        }
        Row row = rowOf(i, d);
        switch (what) {
            case 0: return row.kept;
            case 1: return row.bestNote();
            case 2: return row.lastNote();
            default: return row.sumOfNotes();
        }
    }

    public int learnt(int from, int aim, int what) {
        if (!isNode(from) || !isNode(aim)) {
            return UNKNOWN;
        }
        boolean asksForNode = what >= FIRST_NODE_OF_WAY && what < FIRST_NODE_OF_WAY + NODES;
        if (!asksForNode && (what < 0 || what > 2)) {
            return OUTSIDE;
        }
        if (from == aim) {
            return STATE;
        }
        int length = followLearnt(from, aim);
        if (length == 0) {
            return NONE;
        }
        switch (what) {
            case 0: return delaysOfWay(length);
            case 1: return length - 1;
            case 2: return setOfWay(length);
            default: return nodeOfWay(what - FIRST_NODE_OF_WAY, length);
        }
    }

    public int shortest(int from, int aim) {
        if (!isNode(from) || !isNode(aim)) {
            return UNKNOWN;
        }
        if (from == aim) {
            return STATE;
        }
        net.measureTo(aim);
        return net.far[from];
    }

    public int right() {
        int count = 0;
        for (int d = 0; d < NODES; d++) {
            net.measureTo(d);
            for (int i = 0; i < NODES; i++) {
                if (i != d && net.isOnShortest(i, rowOf(i, d).greatest())) {
                    count++;
                }
            }
        }
        return count;
    }

    public int many(int what) {
        switch (what) {
            case 0: return net.count;
            case 1: return countWalkers(false) + countWalkers(true);
            case 2: return countWalkers(false);
            case 3: return doneSoFar;
            case 4: return lostSoFar;
            case 5: return time;
            case 6: return tripsSoFar;
            case 7: return dice.draws;
            default: return OUTSIDE;
        }
    }

    // ---- what numbers may be

    private static boolean isNode(int i) {
        return i >= 0 && i < NODES;
    }

    private static boolean isDelay(int v) {
        return v >= 1 && v <= LONGEST_DELAY;
    }

    private static boolean isOfWhole(int v) {
        return v >= 0 && v <= WHOLE;
    }

    private boolean isWalker(int w) {
        return w >= 0 && w < MOST_WALKERS && walkers[w].walks;
    }

    private static boolean isIn(int set, int k) {
        return (set >> k & 1) != 0;
    }

    // ---- rows

    private Row rowOf(int i, int d) {
        return rows[i * NODES + d];
    }

    private void startRowsAnew(int i) {
        for (int d = 0; d < NODES; d++) {
            rowOf(i, d).startAnew(net.near[i]);
        }
    }

    // ---- walking

    private int freeWalker() {
        for (int n = 0; n < MOST_WALKERS; n++) {
            if (!walkers[n].walks) {
                return n;
            }
        }
        return NONE;
    }

    private int countWalkers(boolean isBack) {
        int count = 0;
        for (int n = 0; n < MOST_WALKERS; n++) {
            if (walkers[n].walks && walkers[n].isBack == isBack) {
                count++;
            }
        }
        return count;
    }

    private int countOn(int l, boolean isBack) {
        int count = 0;
        for (int n = 0; n < MOST_WALKERS; n++) {
            if (walkers[n].onLink == l && walkers[n].isBack == isBack) {
                count++;
            }
        }
        return count;
    }

    private int loseAllOn(int l) {
        int count = 0;
        for (int n = 0; n < MOST_WALKERS; n++) {
            if (walkers[n].onLink == l) {
                lose(walkers[n]);
                count++;
            }
        }
        return count;
    }

    private void lose(Walker w) {
        w.stop();
        lostSoFar++;
    }

    private void finish(Walker w, int trip) {
        w.stop();
        doneSoFar++;
        tripsSoFar += trip;
    }

    private void passTick() {
        time++;
        for (int n = 0; n < MOST_WALKERS; n++) {
            Walker w = walkers[n];
            if (!w.walks || w.due != time) {
                continue;
            }
            if (w.isBack) {
                comeBack(w);
            } else {
                comeOut(w);
            }
        }
    }

    private void comeOut(Walker w) {
        // It is off its link before it picks: it must not count itself among those on it.
        w.onLink = NONE;
        w.remember(w.to, time);
        if (w.to == w.aim) {
            w.turn();
            stepBack(w);
        } else {
            goOn(w, w.to);
        }
    }

    private void goOn(Walker w, int at) {
        if (net.near[at] == 0 || w.begun >= MOST_BEGUN) {
            lose(w);
            return;
        }
        int to = pick(w, at);
        int l = net.between(at, to);
        if (l == NONE) {
            lose(w);
            return;
        }
        int due = time + net.delays[l] + countOn(l, false);
        w.begun++;
        w.travel(l, to, due);
    }

    private int pick(Walker w, int at) {
        int strange = net.near[at] & ~w.rememberedSet();
        int choice = strange != 0 ? strange : net.near[at];
        int together = weigh(w, at, choice);
        // Weights that are nothing together leave the least one, without a draw.
        int drawn = together > 0 ? dice.draw(together) : -1;
        int sum = 0;
        for (int k = 0; k < NODES; k++) {
            if (isIn(choice, k)) {
                sum += weights[k];
                if (sum > drawn) {
                    return k;
                }
            }
        }
        return NONE;
    }

    private int weigh(Walker w, int at, int choice) {
        Plain kind = kinds[w.kind];
        Row row = rowOf(at, w.aim);
        int together = 0;
        for (int k = 0; k < NODES; k++) {
            if (isIn(choice, k)) {
                weights[k] = kind.weight(row.shares[k], countOn(net.between(at, k), false));
                together += weights[k];
            }
        }
        return together;
    }

    private void stepBack(Walker w) {
        int next = w.place - 1;
        if (next < 0) {
            return;
        }
        int l = net.between(w.nodes[w.place], w.nodes[next]);
        if (l == NONE) {
            lose(w);
            return;
        }
        w.place = next;
        w.travel(l, w.nodes[next], time + 1);
    }

    private void comeBack(Walker w) {
        int from = w.place + 1;
        if (from >= w.remembered) {
            return;
        }
        int trip = w.times[w.remembered - 1] - w.times[w.place];
        Row row = rowOf(w.to, w.aim);
        row.note(trip);
        int reward = kinds[w.kind].reward(rewardOfBest, row.bestNote(), trip);
        row.raiseBy(w.nodes[from], reward, lowestShare, sharing);
        if (w.place == 0) {
            finish(w, trip);
        } else {
            stepBack(w);
        }
    }

    // ---- the learnt way

    /** Fills the way from its first node on, and answers how many nodes it has; 0: there is none. */
    private int followLearnt(int from, int aim) {
        int at = from;
        int met = 0;
        for (int n = 0; n < NODES; n++) {
            way[n] = at;
            if (at == aim) {
                return n + 1;
            }
            met |= 1 << at;
            int next = rowOf(at, aim).greatest();
            if (next == NONE || isIn(met, next)) {
                return 0;
            }
            at = next;
        }
        return 0;
    }

    private int delaysOfWay(int length) {
        int sum = 0;
        for (int n = 1; n < length; n++) {
            sum += net.delayBetween(way[n - 1], way[n]);
        }
        return sum;
    }

    private int setOfWay(int length) {
        int set = 0;
        for (int n = 0; n < length; n++) {
            set |= 1 << way[n];
        }
        return set;
    }

    private int nodeOfWay(int k, int length) {
        return k >= 0 && k < length ? way[k] : NONE;
    }

    /** The links, and how far each node is from an aim. */
    private static final class Net {
        final int[] lesser = new int[MOST_LINKS];
        final int[] greater = new int[MOST_LINKS];
        /** 0 where there is no link. */
        final int[] delays = new int[MOST_LINKS];
        /** For each node the set of its neighbours. */
        final int[] near = new int[NODES];
        /** What measureTo found: NONE where there is no way. */
        final int[] far = new int[NODES];
        int count = 0;

        boolean has(int l) {
            return l >= 0 && l < MOST_LINKS && delays[l] > 0;
        }

        int freeNumber() {
            for (int l = 0; l < MOST_LINKS; l++) {
                if (delays[l] == 0) {
                    return l;
                }
            }
            return NONE;
        }

        int between(int a, int b) {
            int low = Math.min(a, b);
            int high = Math.max(a, b);
            for (int l = 0; l < MOST_LINKS; l++) {
                if (delays[l] > 0 && lesser[l] == low && greater[l] == high) {
                    return l;
                }
            }
            return NONE;
        }

        int delayBetween(int a, int b) {
            int l = between(a, b);
            return l == NONE ? 0 : delays[l];
        }

        void join(int l, int a, int b, int ticksOver) {
            lesser[l] = Math.min(a, b);
            greater[l] = Math.max(a, b);
            delays[l] = ticksOver;
            near[a] |= 1 << b;
            near[b] |= 1 << a;
            count++;
        }

        void part(int l) {
            int a = lesser[l];
            int b = greater[l];
            delays[l] = 0;
            near[a] &= ~(1 << b);
            near[b] &= ~(1 << a);
            count--;
        }

        void measureTo(int aim) {
            for (int i = 0; i < NODES; i++) {
                far[i] = NONE;
            }
            far[aim] = 0;
            // A shortest way has fewer links than there are nodes: so many rounds reach every node.
            for (int n = 1; n < NODES; n++) {
                for (int l = 0; l < MOST_LINKS; l++) {
                    if (delays[l] > 0) {
                        reach(lesser[l], greater[l], delays[l]);
                        reach(greater[l], lesser[l], delays[l]);
                    }
                }
            }
        }

        private void reach(int i, int over, int ticksOver) {
            if (far[over] == NONE) {
                return;
            }
            int sum = far[over] + ticksOver;
            if (far[i] == NONE || sum < far[i]) {
                far[i] = sum;
            }
        }

        /** Whether a shortest way from i, to where it was measured last, goes over k. */
        boolean isOnShortest(int i, int k) {
            if (k == NONE || far[i] == NONE || far[k] == NONE) {
                return false;
            }
            return far[k] + delayBetween(i, k) == far[i];
        }
    }

    /** The shares of a node's neighbours for one aim, and what is noted for the two. */
    private static final class Row {
        /** Above what a row can need: each time it lacks at least 1 less, and never more than 700. */
        private static final int MOST_LIFTS = 1000;

        /** Told only for neighbours. */
        final int[] shares = new int[NODES];
        final int[] notes = new int[MOST_NOTES];
        /** The set of neighbours. */
        int near = 0;
        int kept = 0;
        private int nextNote = 0;

        void startAnew(int neighbourSet) {
            near = neighbourSet;
            kept = 0;
            nextNote = 0;
            becomeEven();
        }

        void becomeEven() {
            Sharing.evenOut(WHOLE, near, shares);
        }

        /** The neighbour with the greatest share, of several the least; NONE: it has none. */
        int greatest() {
            int best = NONE;
            for (int k = 0; k < NODES; k++) {
                if (isIn(near, k) && (best == NONE || shares[k] > shares[best])) {
                    best = k;
                }
            }
            return best;
        }

        private int leastBelow(int lowest) {
            for (int k = 0; k < NODES; k++) {
                if (isIn(near, k) && shares[k] < lowest) {
                    return k;
                }
            }
            return NONE;
        }

        private void lift(int lowest) {
            for (int n = 0; n < MOST_LIFTS; n++) {
                int low = leastBelow(lowest);
                int high = greatest();
                if (low == NONE || high == NONE) {
                    return;
                }
                shares[high] -= lowest - shares[low];
                shares[low] = lowest;
            }
        }

        void raiseBy(int k, int r, int lowest, Sharing sharing) {
            int others = near & ~(1 << k);
            if (others == 0) {
                return;
            }
            for (int j = 0; j < NODES; j++) {
                sharing.values[j] = shares[j];
            }
            shares[k] += (WHOLE - shares[k]) * r / WHOLE;
            sharing.shareOut(WHOLE - shares[k], others, shares);
            lift(lowest);
        }

        /** Answers how many shares changed. */
        int fadeBy(int e, int lowest, Sharing sharing) {
            int size = Integer.bitCount(near);
            for (int k = 0; k < NODES; k++) {
                sharing.before[k] = shares[k];
                sharing.values[k] = (long) shares[k] * (WHOLE - e) * size + WHOLE * e;
            }
            sharing.shareOut(WHOLE, near, shares);
            lift(lowest);
            int changed = 0;
            for (int k = 0; k < NODES; k++) {
                if (isIn(near, k) && shares[k] != sharing.before[k]) {
                    changed++;
                }
            }
            return changed;
        }

        void note(int trip) {
            notes[nextNote] = trip;
            nextNote = (nextNote + 1) % MOST_NOTES;
            kept = Math.min(kept + 1, MOST_NOTES);
        }

        int bestNote() {
            int best = NONE;
            for (int n = 0; n < kept; n++) {
                if (best == NONE || notes[n] < best) {
                    best = notes[n];
                }
            }
            return best;
        }

        int lastNote() {
            return kept == 0 ? NONE : notes[(nextNote + MOST_NOTES - 1) % MOST_NOTES];
        }

        int sumOfNotes() {
            int sum = 0;
            for (int n = 0; n < kept; n++) {
                sum += notes[n];
            }
            return sum;
        }
    }

    /** How a number is given out in whole parts; its rows are used again by every call. */
    private static final class Sharing {
        /** By what each one's part goes; the caller fills it. Long: a number times it is beyond int. */
        final long[] values = new long[NODES];
        /** For a caller that wants to know what changed. */
        final int[] before = new int[NODES];
        private final long[] rests = new long[NODES];

        static void evenOut(int number, int set, int[] parts) {
            int size = Integer.bitCount(set);
            if (size == 0) {
                return;
            }
            int left = number % size;
            for (int k = 0; k < NODES; k++) {
                if (isIn(set, k)) {
                    parts[k] = number / size + (left > 0 ? 1 : 0);
                    left--;
                }
            }
        }

        void shareOut(int number, int set, int[] parts) {
            long together = sumOfValues(set);
            if (together <= 0) {
                evenOut(number, set, parts);
                return;
            }
            int left = number;
            for (int k = 0; k < NODES; k++) {
                if (isIn(set, k)) {
                    long product = number * values[k];
                    parts[k] = (int) (product / together);
                    rests[k] = product % together;
                    left -= parts[k];
                }
            }
            // The rests are less than one part each, so fewer are left than there are to get one.
            for (int n = 0; n < NODES && n < left; n++) {
                giveOne(set, parts);
            }
        }

        private long sumOfValues(int set) {
            long sum = 0;
            for (int k = 0; k < NODES; k++) {
                if (isIn(set, k)) {
                    sum += values[k];
                }
            }
            return sum;
        }

        private void giveOne(int set, int[] parts) {
            int best = NONE;
            for (int k = 0; k < NODES; k++) {
                if (isIn(set, k) && (best == NONE || rests[k] > rests[best])) {
                    best = k;
                }
            }
            if (best != NONE) {
                parts[best]++;
                rests[best] = -1;
            }
        }
    }

    /** One who walks; a place for one, while none does. */
    private static final class Walker {
        final int[] nodes = new int[NODES];
        final int[] times = new int[NODES];
        int remembered = 0;
        boolean walks = false;
        boolean isBack = false;
        int kind = 0;
        int start = 0;
        int aim = 0;
        int onLink = NONE;
        int to = 0;
        int due = 0;
        int begun = 0;
        /** On its way back: where in its memory the node is to which it goes. */
        int place = 0;

        void setOut(int ofKind, int from, int toAim, int now) {
            walks = true;
            isBack = false;
            kind = ofKind;
            start = from;
            aim = toAim;
            onLink = NONE;
            begun = 0;
            remembered = 0;
            remember(from, now);
        }

        void remember(int node, int now) {
            for (int n = 0; n < remembered; n++) {
                if (nodes[n] == node) {
                    remembered = n + 1;
                    return;
                }
            }
            if (remembered < NODES) {
                nodes[remembered] = node;
                times[remembered] = now;
                remembered++;
            }
        }

        int rememberedSet() {
            int set = 0;
            for (int n = 0; n < remembered; n++) {
                set |= 1 << nodes[n];
            }
            return set;
        }

        /** Off its link too: those on a link are told by that alone. */
        void stop() {
            walks = false;
            onLink = NONE;
        }

        void turn() {
            isBack = true;
            place = remembered - 1;
        }

        void travel(int l, int node, int at) {
            onLink = l;
            to = node;
            due = at;
        }
    }

    /** What a kind of walker does in its own way. */
    private static class Plain {
        int weight(int ofRow, int crowd) {
            return ofRow;
        }

        int reward(int ofBest, int best, int trip) {
            return trip <= 0 ? 0 : ofBest * best / trip;
        }
    }

    private static class Heedful extends Plain {
        int weight(int ofRow, int crowd) {
            return crowd < 0 ? ofRow : ofRow / (crowd + 1);
        }
    }

    private static final class Eager extends Heedful {
        int reward(int ofBest, int best, int trip) {
            int plain = super.reward(ofBest, best, trip);
            return plain + (WHOLE - plain) / 4;
        }
    }

    /** Where draws come from. */
    private static final class Dice {
        int state = 1;
        int draws = 0;

        int draw(int m) {
            if (m <= 0) {
                return 0;
            }
            state = 1103515245 * state + 12345;
            draws++;
            return (state >>> 16) % m;
        }
    }
}
