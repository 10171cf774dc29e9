import java.util.Random;

/** Random calls on the class and on the model, compared after each: every answer, every exception. */
final class ModelTest {
    /** How often each call is made, in the order of CALLS. */
    private static final String[] CALLS = {"request", "again", "deliver", "lose", "flow", "down", "up",
        "suspect", "nudge", "sync", "fail", "install", "wrong"};
    private static final int[][] WAYS = {
        {40, 2, 5, 0, 40, 0, 0, 0, 2, 5, 0, 0, 1},
        {30, 10, 60, 10, 10, 2, 2, 1, 8, 5, 1, 1, 1},
        {25, 8, 60, 20, 5, 1, 2, 4, 10, 3, 1, 2, 1},
        {25, 20, 30, 5, 30, 3, 3, 3, 10, 8, 1, 3, 2},
        {10, 60, 10, 1, 25, 0, 0, 0, 3, 4, 0, 0, 1},
        {10, 40, 80, 10, 0, 0, 0, 0, 3, 1, 0, 0, 0},
        {10, 40, 10, 4, 15, 3, 3, 2, 10, 3, 0, 1, 0},
        {10, 5, 40, 1, 10, 2, 2, 10, 15, 3, 1, 3, 1},
    };

    private final Random random;
    private final OrderedTable table;
    private final Model model;
    private final StringBuilder made = new StringBuilder();
    private String differs;

    private ModelTest(long seed) {
        random = new Random(seed);
        int n = random.nextInt(40) - 20;
        table = new OrderedTable(n);
        model = new Model(n);
        made.append("new OrderedTable(").append(n).append(")");
    }

    public static void main(String[] args) {
        int runs = args.length > 0 ? Integer.parseInt(args[0]) : 1600;
        int from = args.length > 1 ? Integer.parseInt(args[1]) : 0;
        for (int seed = from; seed < from + runs; seed++) {
            ModelTest test = new ModelTest(seed);
            test.run(WAYS[seed % WAYS.length]);
            if (test.differs != null) {
                System.out.println("seed " + seed + ": " + test.differs + " after " + test.made);
                System.exit(1);
            }
        }
        System.out.println(runs + " random runs answer as the model does");
    }

    private void run(int[] weights) {
        for (int i = 0; i < 512 && differs == null; i++) {
            step(CALLS[choose(weights)]);
            compareAnswers(i % 16 == 0);
        }
    }

    private int choose(int[] weights) {
        int sum = 0;
        for (int w : weights) {
            sum += w;
        }
        int left = random.nextInt(sum);
        int i = 0;
        while (left >= weights[i]) {
            left -= weights[i];
            i++;
        }
        return i;
    }

    private int message() {
        int lying = model.about(0);
        if (lying == 0) {
            return random.nextInt(3) - 1;
        }
        int near = random.nextInt(3) == 0 ? lying : Math.min(lying, 6);
        return model.message(random.nextInt(near), 0);
    }

    private void step(String call) {
        int r = random.nextInt(model.n);
        int c = random.nextInt(4);
        switch (call) {
            case "request": both(call, c, random.nextInt(3), random.nextInt(3), random.nextInt(9) - 3); break;
            case "again": both(call, c); break;
            case "deliver": case "lose": both(call, message()); break;
            case "flow": both(call, random.nextInt(41)); break;
            case "fail": case "install": both(call); break;
            case "wrong": wrong(); break;
            default: both(call, r); break;
        }
    }

    private void wrong() {
        String call = CALLS[random.nextInt(CALLS.length - 1)];
        int[] odd = {-1, 3, 4, 5, 7, 8, 40, 41, Integer.MIN_VALUE, Integer.MAX_VALUE};
        both(call, odd[random.nextInt(10)], random.nextInt(3) - 1, random.nextInt(6) + 4, odd[random.nextInt(10)]);
    }

    private void both(String call, int... a) {
        made.append("; ").append(call).append(java.util.Arrays.toString(a));
        String got = outcome(() -> onTable(call, a));
        String want = outcome(() -> onModel(call, a));
        if (!got.equals(want)) {
            differs = call + " answered " + got + ", the model " + want;
        }
    }

    private interface Call {
        long make();
    }

    private static String outcome(Call call) {
        try {
            return String.valueOf(call.make());
        } catch (RuntimeException e) {
            return e.getClass().getName();
        }
    }

    private long onTable(String call, int[] a) {
        switch (call) {
            case "request": return table.request(a[0], a[1], a[2], a[3]);
            case "again": table.again(a[0]); return 0;
            case "deliver": table.deliver(a[0]); return 0;
            case "lose": table.lose(a[0]); return 0;
            case "flow": return table.flow(a[0]);
            case "down": table.down(a[0]); return 0;
            case "up": table.up(a[0]); return 0;
            case "suspect": table.suspect(a[0]); return 0;
            case "nudge": return table.nudge(a[0]);
            case "sync": table.sync(a[0]); return 0;
            case "fail": return table.fail() ? 1 : 0;
            default: return table.install();
        }
    }

    private long onModel(String call, int[] a) {
        switch (call) {
            case "request": return model.request(a[0], a[1], a[2], a[3]);
            case "again": model.again(a[0]); return 0;
            case "deliver": model.deliver(a[0]); return 0;
            case "lose": model.lose(a[0]); return 0;
            case "flow": return model.flow(a[0]);
            case "down": model.down(a[0]); return 0;
            case "up": model.up(a[0]); return 0;
            case "suspect": model.suspect(a[0]); return 0;
            case "nudge": return model.nudge(a[0]);
            case "sync": model.sync(a[0]); return 0;
            case "fail": return model.fail() ? 1 : 0;
            default: return model.install();
        }
    }

    private void same(String what, long got, long want) {
        if (got != want && differs == null) {
            differs = what + " answered " + got + ", the model " + want;
        }
    }

    private void compareAnswers(boolean all) {
        for (int r = -1; r <= model.n; r++) {
            for (int what = -1; what <= 11; what++) {
                same("replica(" + r + ", " + what + ")", table.replica(r, what), model.replica(r, what));
            }
            if (all) {
                compareLog(r);
            }
        }
        for (int c = -1; c <= 4; c++) {
            for (int what = -1; what <= 5; what++) {
                same("client(" + c + ", " + what + ")", table.client(c, what), model.client(c, what));
            }
            same("answer(" + c + ")", table.answer(c), model.answer(c));
        }
        for (int what = -1; what <= 7; what++) {
            same("about(" + what + ")", table.about(what), model.about(what));
        }
        for (int k = all ? -1 : Math.max(-1, model.about(0) - 9); k <= model.about(0); k++) {
            for (int what = -1; what <= 4; what++) {
                same("message(" + k + ", " + what + ")", table.message(k, what), model.message(k, what));
            }
        }
        if (all) {
            same("broken()", table.broken(), model.broken());
        }
    }

    private void compareLog(int r) {
        for (int slot = -1; slot <= model.replica(r, 5) + 1; slot++) {
            for (int what = -1; what <= 6; what++) {
                same("entry(" + r + ", " + slot + ", " + what + ")",
                    table.entry(r, slot, what), model.entry(r, slot, what));
            }
        }
        for (int key = -1; key <= 8; key++) {
            same("word(" + r + ", " + key + ")", table.word(r, key), model.word(r, key));
        }
    }
}
