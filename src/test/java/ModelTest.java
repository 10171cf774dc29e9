import java.util.Arrays;
import java.util.Random;

/**
 * Random calls on the class and on the model, compared: every answer, every exception. Questions are calls,
 * too, of which an object has 512: some are asked between the others, and at the end those that tell most.
 */
final class ModelTest {
    private static final int CALLS_OF_AN_OBJECT = 512;
    /** How often each call is made, in the order of CALLS. */
    private static final String[] CALLS = {"request", "again", "deliver", "lose", "flow", "down", "up",
        "suspect", "nudge", "sync", "fail", "install", "wrong"};
    private static final int[][] WAYS = {
        {40, 2, 5, 0, 40, 0, 0, 0, 2, 5, 0, 0, 1},
        {30, 10, 60, 10, 10, 2, 2, 1, 8, 5, 1, 1, 1},
        {25, 8, 60, 20, 5, 1, 2, 4, 10, 3, 1, 2, 1},
        {25, 20, 30, 5, 30, 3, 3, 3, 10, 8, 1, 3, 2},
        {10, 60, 10, 1, 25, 0, 0, 0, 3, 4, 0, 0, 1},
        {10, 40, 80, 10, 0, 0, 0, 0, 3, 1, 0, 0, 0},
        {10, 40, 10, 4, 15, 3, 3, 2, 10, 3, 0, 1, 0},
        {10, 5, 40, 1, 10, 2, 2, 10, 15, 3, 1, 3, 1},
    };

    private final Random random;
    private final OrderedTable table;
    private final Model model;
    private final StringBuilder made = new StringBuilder();
    private int calls;
    private String differs;

    private ModelTest(long seed) {
        random = new Random(seed);
        int n = random.nextInt(40) - 20;
        table = new OrderedTable(n);
        model = new Model(n);
        made.append("new OrderedTable(").append(n).append(")");
    }

    public static void main(String[] args) {
        int runs = args.length > 0 ? Integer.parseInt(args[0]) : 8000;
        int from = args.length > 1 ? Integer.parseInt(args[1]) : 0;
        for (int seed = from; seed < from + runs; seed++) {
            ModelTest test = new ModelTest(seed);
            test.run(WAYS[seed % WAYS.length]);
            if (test.differs != null) {
                System.out.println("seed " + seed + ": " + test.differs + " after " + test.made);
                System.exit(1);
            }
        }
        System.out.println(runs + " random runs answer as the model does");
    }

    private void run(int[] weights) {
        int last = CALLS_OF_AN_OBJECT - model.n * 11 - 40;
        int questions = random.nextInt(5);
        while (calls < last && differs == null) {
            if (random.nextInt(10) < questions) {
                question();
            } else {
                step(CALLS[choose(weights)]);
            }
        }
        for (int r = 0; r < model.n; r++) {
            for (int what = 0; what <= 10; what++) {
                same("replica", r, what);
            }
        }
        while (calls < CALLS_OF_AN_OBJECT && differs == null) {
            question();
        }
    }

    private void question() {
        int r = random.nextInt(model.n + 2) - 1;
        switch (random.nextInt(16)) {
            case 0: case 1: case 2: case 3: case 4: same("replica", r, random.nextInt(13) - 1); break;
            case 5: case 6: case 7: same("entry", r, slot(r), random.nextInt(8) - 1); break;
            case 8: case 9: same("word", r, random.nextInt(10) - 1); break;
            case 10: same("client", random.nextInt(6) - 1, random.nextInt(7) - 1); break;
            case 11: same("answer", random.nextInt(6) - 1); break;
            case 12: same("about", random.nextInt(9) - 1); break;
            case 13: case 14: same("message", random.nextInt(model.about(0) + 2) - 1, random.nextInt(6) - 1); break;
            default: same("broken"); break;
        }
    }

    private int slot(int r) {
        int length = Math.max(0, model.replica(r, 5));
        return random.nextInt(3) == 0 ? length - random.nextInt(4) + 1 : random.nextInt(length + 3) - 1;
    }

    private int choose(int[] weights) {
        int sum = 0;
        for (int w : weights) {
            sum += w;
        }
        int left = random.nextInt(sum);
        int i = 0;
        while (left >= weights[i]) {
            left -= weights[i];
            i++;
        }
        return i;
    }

    private int message() {
        int lying = model.about(0);
        if (lying == 0) {
            return random.nextInt(3) - 1;
        }
        int near = random.nextInt(3) == 0 ? lying : Math.min(lying, 6);
        return model.message(random.nextInt(near), 0);
    }

    private void step(String call) {
        int r = random.nextInt(model.n);
        int c = random.nextInt(4);
        switch (call) {
            case "request": both(call, c, random.nextInt(3), random.nextInt(3), random.nextInt(9) - 3); break;
            case "again": both(call, c); break;
            case "deliver": case "lose": both(call, message()); break;
            case "flow": both(call, random.nextInt(41)); break;
            case "fail": case "install": both(call); break;
            case "wrong": wrong(); break;
            default: both(call, r); break;
        }
    }

    private void wrong() {
        String call = CALLS[random.nextInt(CALLS.length - 1)];
        int[] odd = {-1, 3, 4, 5, 7, 8, 40, 41, Integer.MIN_VALUE, Integer.MAX_VALUE};
        both(call, odd[random.nextInt(10)], random.nextInt(3) - 1, random.nextInt(6) + 4, odd[random.nextInt(10)]);
    }

    private void both(String call, int... a) {
        made.append("; ").append(call).append(Arrays.toString(a));
        same(call, a);
    }

    private void same(String call, int... a) {
        calls++;
        String got = outcome(() -> onTable(call, a));
        String want = outcome(() -> onModel(call, a));
        if (!got.equals(want) && differs == null) {
            differs = call + Arrays.toString(a) + " answered " + got + ", the model " + want;
        }
    }

    private interface Call {
        long make();
    }

    private static String outcome(Call call) {
        try {
            return String.valueOf(call.make());
        } catch (RuntimeException e) {
            return e.getClass().getName();
        }
    }

    private long onTable(String call, int[] a) {
        switch (call) {
            case "request": return table.request(a[0], a[1], a[2], a[3]);
            case "again": table.again(a[0]); return 0;
            case "deliver": table.deliver(a[0]); return 0;
            case "lose": table.lose(a[0]); return 0;
            case "flow": return table.flow(a[0]);
            case "down": table.down(a[0]); return 0;
            case "up": table.up(a[0]); return 0;
            case "suspect": table.suspect(a[0]); return 0;
            case "nudge": return table.nudge(a[0]);
            case "sync": table.sync(a[0]); return 0;
            case "fail": return table.fail() ? 1 : 0;
            case "install": return table.install();
            case "replica": return table.replica(a[0], a[1]);
            case "entry": return table.entry(a[0], a[1], a[2]);
            case "word": return table.word(a[0], a[1]);
            case "client": return table.client(a[0], a[1]);
            case "answer": return table.answer(a[0]);
            case "about": return table.about(a[0]);
            case "message": return table.message(a[0], a[1]);
            default: return table.broken();
        }
    }

    private long onModel(String call, int[] a) {
        switch (call) {
            case "request": return model.request(a[0], a[1], a[2], a[3]);
            case "again": model.again(a[0]); return 0;
            case "deliver": model.deliver(a[0]); return 0;
            case "lose": model.lose(a[0]); return 0;
            case "flow": return model.flow(a[0]);
            case "down": model.down(a[0]); return 0;
            case "up": model.up(a[0]); return 0;
            case "suspect": model.suspect(a[0]); return 0;
            case "nudge": return model.nudge(a[0]);
            case "sync": model.sync(a[0]); return 0;
            case "fail": return model.fail() ? 1 : 0;
            case "install": return model.install();
            case "replica": return model.replica(a[0], a[1]);
            case "entry": return model.entry(a[0], a[1], a[2]);
            case "word": return model.word(a[0], a[1]);
            case "client": return model.client(a[0], a[1]);
            case "answer": return model.answer(a[0]);
            case "about": return model.about(a[0]);
            case "message": return model.message(a[0], a[1]);
            default: return model.broken();
        }
    }
}
