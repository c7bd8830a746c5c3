import java.util.Random;

/** All promises together: runs of at most 512 calls, the same on every machine, answered alike by the class and the model. */
public final class ModelTest {
    private static final int RUNS = 1000;
    private static final int STEPS = 512;
    private static final long MOST = 1000000000000L;
    private static final int[] STRANGE = {-1, 15, 16, Integer.MIN_VALUE, Integer.MAX_VALUE};

    private final Random random;
    private final ClearingBooks books = new ClearingBooks();
    private final Model model = new Model();
    private final boolean smallAmounts;
    private final int limit;

    private ModelTest(int seed) {
        random = new Random(seed);
        smallAmounts = random.nextBoolean();
        limit = 2 + random.nextInt(15);
    }

    public static void main(String[] args) {
        for (int seed = 0; seed < RUNS; seed++) {
            ModelTest run = new ModelTest(seed);
            for (int step = 0; step < STEPS; step++) {
                run.step("run " + seed + " step " + step);
            }
        }
        Check.end();
    }

    private void step(String at) {
        int a = party();
        int b = party();
        int what = random.nextInt(20) == 0 ? strange() : random.nextInt(6);
        switch (random.nextInt(15)) {
            case 0 -> enter(at);
            case 1, 2, 3 -> {
                long x = clearAmount();
                compare(at + " clear", () -> model.clear(a, b, x), () -> books.clear(a, b, x));
            }
            case 4, 5 -> {
                long x = backAmount();
                compare(at + " back", () -> model.back(a, b, x), () -> books.back(a, b, x));
            }
            case 6 -> reconcile(at, a);
            case 7 -> compare(at + " batch", () -> model.batch(a, what), () -> books.batch(a, what));
            case 8 -> {
                if (random.nextInt(3) == 0) {
                    compare(at + " settle", model::settle, books::settle);
                }
            }
            case 9, 10 -> compare(at + " transfer", () -> model.transfer(a, what), () -> books.transfer(a, what));
            case 11, 12 -> compare(at + " party", () -> model.party(a, what), () -> books.party(a, what));
            case 13 -> compare(at + " parties", model::parties, books::parties);
            default -> compare(at + " audit", () -> 0, books::audit);
        }
    }

    private void enter(String at) {
        boolean wrong = random.nextInt(8) == 0;
        if (!wrong && model.parties() >= limit) {
            return;
        }
        int rate = wrong ? random.nextInt(2000) - 500 : random.nextInt(1001);
        if (random.nextBoolean()) {
            compare(at + " acquirer", () -> model.enter(1, rate), () -> books.acquirer(rate));
        } else {
            compare(at + " issuer", () -> model.enter(2, rate), () -> books.issuer(rate));
        }
    }

    private void reconcile(String at, int a) {
        int count = (int) model.batchSize(a) + (random.nextInt(4) == 0 ? 1 : 0);
        long sum = model.batchSum(a) - (random.nextInt(4) == 0 ? 1 : 0);
        compare(at + " reconcile", () -> model.reconcile(a, count, sum),
            () -> books.reconcile(a, count, sum) ? 1 : 0);
    }

    private static void compare(String at, Check.Call want, Check.Call got) {
        Check.due(at, Check.outcome(want), Check.outcome(got));
    }

    private int party() {
        return random.nextInt(40) == 0 ? strange() : random.nextInt((int) model.parties() + 1);
    }

    private int strange() {
        return STRANGE[random.nextInt(STRANGE.length)];
    }

    private long clearAmount() {
        return switch (random.nextInt(30)) {
            case 0 -> 0;
            case 1 -> MOST + 1;
            case 2 -> MOST;
            case 3 -> random.nextLong();
            default -> 1 + (smallAmounts ? random.nextInt(6) : (long) (random.nextDouble() * MOST));
        };
    }

    private long backAmount() {
        return switch (random.nextInt(30)) {
            case 0 -> -MOST - random.nextInt(2);
            case 1 -> MOST + random.nextInt(2);
            case 2 -> random.nextLong();
            default -> smallAmounts ? random.nextInt(7) - 3 : (long) ((random.nextDouble() * 2 - 1) * MOST);
        };
    }
}
