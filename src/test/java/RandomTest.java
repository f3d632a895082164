import java.util.Arrays;
import java.util.Map;
import java.util.Random;
import java.util.Set;
import java.util.TreeMap;
import java.util.TreeSet;

/**
 * Long mixed runs, the same ones each time. Every answer is held against the model's, and against that of a
 * twin object which is spared the refused calls: those must change nothing. At the end every code that the
 * document gives a call must have been seen, or the runs were too tame. After the 512th call any answer will do,
 * but by rule 7 of the language there must be one.
 */
public final class RandomTest {
    private static final int RUNS = 3000;
    private static final int CALLS = 512;
    private static final int LATER_CALLS = 200_000;

    private static final int[] FAR = {-1, -2, 5, 6, 20, 99, Integer.MAX_VALUE, Integer.MIN_VALUE};

    private final Map<String, Set<Long>> seen = new TreeMap<>();
    private final Map<String, Integer> rare = new TreeMap<>();
    private int wrong = 0;

    private RandomTest() {
    }

    public static void main(String[] args) {
        RandomTest test = new RandomTest();
        for (int seed = 0; seed < RUNS && test.wrong < 10; seed++) {
            test.run(seed);
        }
        test.checkSeen();
        runOn();
        System.out.println(RUNS + " runs of " + CALLS + " calls, states " + test.rare + ", " + test.wrong + " wrong");
        if (test.wrong != 0) {
            System.exit(1);
        }
    }

    private void run(int seed) {
        Random random = new Random(seed);
        int[] weights = weights(random);
        GrantRing real = new GrantRing();
        GrantRing twin = new GrantRing();
        Model model = new Model();
        for (int i = 0; i < CALLS; i++) {
            String name = i < 3 ? "create" : pick(random, weights);
            int[] n = arguments(random, name);
            long want = model.make(name, n);
            long got = Calls.make(real, name, n);
            boolean spared = got < 0 && !name.equals("serve") && !name.equals("reap");
            long twins = spared ? got : Calls.make(twin, name, n);
            seen.computeIfAbsent(name, k -> new TreeSet<>()).add(Math.min(want, 0));
            rare.merge(model.rareState(), 1, Integer::sum);
            if (got != want || twins != want) {
                wrong++;
                System.out.println("run " + seed + ", call " + i + ": " + name + Arrays.toString(n) + " answered "
                        + got + ", the twin " + twins + ", due is " + want);
                return;
            }
        }
    }

    private static void runOn() {
        Random random = new Random(RUNS);
        int[] weights = weights(random);
        GrantRing worn = new GrantRing();
        for (int i = 0; i < CALLS + LATER_CALLS; i++) {
            String name = pick(random, weights);
            Calls.make(worn, name, arguments(random, name));
        }
    }

    /** Each run leans to some calls and away from others, so that tables fill up in some and rings in others. */
    private static int[] weights(Random random) {
        int[] weights = new int[Calls.NAMES.length];
        for (int i = 0; i < weights.length; i++) {
            boolean rarely = Calls.NAMES[i].equals("destroy") || Calls.NAMES[i].equals("unmap");
            weights[i] = rarely ? 1 + random.nextInt(3) : 1 + random.nextInt(12);
        }
        return weights;
    }

    private static String pick(Random random, int[] weights) {
        int left = random.nextInt(Arrays.stream(weights).sum());
        int i = 0;
        while (left >= weights[i]) {
            left -= weights[i];
            i++;
        }
        return Calls.NAMES[i];
    }

    private static int[] arguments(Random random, String name) {
        switch (name) {
            case "create": return new int[0];
            case "destroy": case "alloc": case "next": return row(random, 5);
            case "free": return row(random, 5, 10);
            case "grant": return row(random, 5, 5, 10, 3);
            case "end": return row(random, 5, 6);
            case "map": return row(random, 5, 5, 6, 2);
            case "unmap": return row(random, 5, 5);
            case "give": return row(random, 5, 10, 5, 6);
            case "store": return store(random);
            case "load": return row(random, 5, 10, 8);
            case "open": case "attach": return row(random, 5, 5);
            case "bind": return row(random, 5, 5, 4);
            case "send": return row(random, 5, 4);
            case "submit": return row(random, 3, 2, 8, 1000);
            case "serve": case "reap": return row(random, 3);
            case "look": return row(random, 7, random.nextBoolean() ? 5 : 20, 8);
            default: throw new IllegalArgumentException("no call " + name);
        }
    }

    private static int[] store(Random random) {
        int[] n = row(random, 5, 10, random.nextBoolean() ? 2 : 8, 1);
        boolean request = n[2] >= 2 && n[2] <= 4;
        int chance = random.nextInt(20);
        n[3] = chance == 0 ? FAR[random.nextInt(FAR.length)] : random.nextInt(request ? 100 : 8);
        return n;
    }

    private static int[] row(Random random, int... counts) {
        int[] n = new int[counts.length];
        for (int i = 0; i < n.length; i++) {
            boolean far = random.nextInt(60) == 0;
            n[i] = far ? FAR[random.nextInt(FAR.length)] : random.nextInt(counts[i]);
        }
        return n;
    }

    private void checkSeen() {
        for (String name : Calls.NAMES) {
            for (int code : Calls.REFUSALS.get(name)) {
                if (!seen.getOrDefault(name, Set.of()).contains((long) code)) {
                    wrong++;
                    System.out.println("the runs never saw " + name + " answer " + code);
                }
            }
        }
    }
}
