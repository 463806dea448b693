import java.util.ArrayList;
import java.util.List;
import java.util.Random;

/** Long runs of calls, always the same ones, on the class and on the model. */
public final class ModelTest {
    private static final int RUNS = 1200;
    private static final int CALLS = 512;
    private static final int MOST_CALLS_AT_ONCE = 8;

    private final Random random;
    private final WalkedWays real = new WalkedWays();
    private final Model model = new Model();
    private final List<String> told = new ArrayList<>();
    /** How often a number is one that must be refused: 1 of so many. */
    private final int wrongOneOf;
    private final int nodes;

    private ModelTest(int run) {
        random = new Random(run);
        wrongOneOf = run % 4 == 0 ? 12 : 150;
        nodes = 3 + run % 6;
    }

    public static void main(String[] args) {
        int calls = 0;
        for (int run = 0; run < RUNS; run++) {
            ModelTest test = new ModelTest(run);
            if (!test.runsAlike()) {
                System.out.println("run " + run + ":");
                test.told.forEach(System.out::println);
                System.exit(1);
            }
            calls += test.told.size();
        }
        System.out.println(calls + " calls in " + RUNS + " runs, the class and the model answer alike");
    }

    private boolean runsAlike() {
        int links = random.nextInt(nodes * 2);
        for (int n = 0; told.size() <= CALLS - MOST_CALLS_AT_ONCE; n++) {
            boolean alike = n < links ? ask("link", node(), node(), 1 + random.nextInt(9)) : askAny();
            if (!alike) {
                return false;
            }
        }
        return true;
    }

    private boolean ask(String name, int... numbers) {
        int got = Script.call(real, name, numbers);
        int want = Script.call(model, name, numbers);
        StringBuilder line = new StringBuilder(name);
        for (int v : numbers) {
            line.append(' ').append(v);
        }
        line.append(" = ").append(want);
        if (got != want) {
            line.append("   # answered ").append(got);
        }
        told.add(line.toString());
        return got == want;
    }

    private int number(int low, int high) {
        if (random.nextInt(wrongOneOf) == 0) {
            int[] beside = {low - 1, high + 1, Integer.MIN_VALUE, Integer.MAX_VALUE};
            return beside[random.nextInt(beside.length)];
        }
        if (random.nextInt(8) == 0) {
            return random.nextBoolean() ? low : high;
        }
        return low + random.nextInt(high - low + 1);
    }

    private int node() {
        return random.nextInt(wrongOneOf) == 0 ? number(0, 7) : random.nextInt(nodes);
    }

    private int aim() {
        return random.nextInt(3) == 0 ? nodes - 1 : node();
    }

    private int ofLinks() {
        return number(0, random.nextInt(4) == 0 ? 15 : nodes);
    }

    private int ofWay() {
        return random.nextBoolean() ? number(0, 2) : number(10, 17);
    }

    private boolean askAny() {
        int kind = random.nextInt(100);
        if (kind < 25) {
            return ask("send", number(0, 2), node(), aim());
        }
        if (kind < 45) {
            return ask("ticks", random.nextInt(4) == 0 ? number(0, 200) : 1 + random.nextInt(12));
        }
        if (kind < 75) {
            return askWhatIsThere(random.nextInt(11));
        }
        return change(random.nextInt(25));
    }

    private boolean askWhatIsThere(int kind) {
        return switch (kind) {
            case 0 -> ask("ofLink", ofLinks(), number(0, 4));
            case 1 -> ask("neighbours", node());
            case 2 -> ask("share", node(), aim(), node());
            case 3 -> ask("walker", number(0, 11), number(0, 8));
            case 4 -> ask("memory", number(0, 11), number(0, 7), number(0, 1));
            case 5 -> ask("noted", node(), aim(), number(0, 3));
            case 6 -> ask("learnt", node(), aim(), ofWay());
            case 7 -> ask("shortest", node(), aim());
            case 8 -> random.nextInt(10) != 0 || ask("right");
            case 9 -> ask("many", number(0, 7));
            default -> askWholeRow();
        };
    }

    private boolean askWholeRow() {
        int i = node();
        int d = aim();
        boolean alike = true;
        for (int k = 0; k < nodes; k++) {
            alike &= ask("share", i, d, k);
        }
        return alike;
    }

    private boolean change(int kind) {
        return switch (kind) {
            case 0, 1 -> ask("link", node(), node(), number(1, 60));
            case 2, 3, 4 -> ask("link", node(), node(), number(1, 6));
            case 5 -> ask("cut", ofLinks());
            case 6, 7, 8, 9 -> ask("delay", ofLinks(), number(1, 60));
            case 10 -> ask("floor", number(0, 100));
            case 11 -> ask("floor", 0);
            case 12 -> ask("gain", number(0, 1000));
            case 13 -> ask("fade", number(0, 1000));
            case 14 -> ask("fade", random.nextInt(30));
            case 15 -> ask("even", node(), aim());
            case 16, 17 -> ask("seed", random.nextInt());
            case 18 -> ask("raise", node(), aim(), node(), 1000);
            default -> ask("raise", node(), aim(), node(), number(0, 1000));
        };
    }
}
