import java.util.TreeMap;

/** Runs of mixed calls, each answer and each number of each element compared with those of a plain model. */
public final class OracleRuns {
    private static final int P = 32003;

    private static final String[] CALLS = {"number", "base", "top", "add", "less", "times", "over", "derive",
        "logarithmic", "part", "common", "same", "constant", "low", "count"};
    private static final int[] WEIGHTS = {2, 1, 2, 8, 7, 12, 10, 5, 5, 8, 4, 2, 3, 1, 1};

    private static final TreeMap<String, Integer> counted = new TreeMap<>();

    private final Match match;
    private final Dice dice;
    private final int kind;

    private OracleRuns(String name, int run, long seed) {
        match = new Match(name + " " + run);
        dice = new Dice(seed);
        kind = 1 + run % 2;
    }

    /** Makes the call, and looks at what was made last. */
    private int step(String call, long... w) {
        int last = match.call(call, w);
        counted.merge(match.got().endsWith("Exception") ? "refused" : call, 1, Integer::sum);
        if (last >= 0) {
            match.look(last);
        }
        return last;
    }

    private int handle() {
        int n = match.model.count();
        if (dice.once(40)) {
            return dice.once(2) ? -1 : n;
        }
        return n == 0 ? 0 : dice.once(3) ? Math.max(0, n - 1 - dice.roll(4)) : dice.roll(n);
    }

    private void mixedStep(String call) {
        long first = handle();
        long second = handle();
        if (call.equals("number")) {
            first = dice.once(3) ? (long) dice.roll(1 << 30) * dice.roll(1 << 30) - (1L << 57) : dice.roll(9) - 4;
            second = dice.once(5) ? dice.roll(3) * (long) P : dice.once(2) ? 1 : dice.roll(1 << 30) - (1L << 29);
        } else if (call.equals("letter")) {
            first = dice.once(8) ? dice.roll(5) - 1 : kind;
        } else if (call.equals("part")) {
            second = dice.once(12) ? 5 - 6 * dice.roll(2) : dice.roll(5);
        }
        step(call, first, second);
    }

    private void mixedRun(int calls, int letterAfter) {
        for (int i = 0; i < calls; i++) {
            boolean letter = i == letterAfter || dice.once(60);
            String begin = dice.once(2) ? "number" : "base";
            mixedStep(letter ? "letter" : i < 3 ? begin : dice.pick(CALLS, WEIGHTS));
        }
        for (int i = 0; i < match.model.count(); i++) {
            match.look(i);
        }
    }

    /** Sums of products of small factors, so that fractions have much to lose and parts are many. */
    private int factor(int... letters) {
        int h = letters[dice.roll(letters.length)];
        int terms = 1 + dice.roll(2);
        for (int i = 0; i < terms; i++) {
            String call = dice.once(3) ? "times" : dice.once(2) ? "add" : "less";
            h = step(call, h, letters[dice.roll(letters.length)]);
        }
        return h;
    }

    private void factorRun() {
        step("base");
        step("number", 1 + dice.roll(3), 1 + dice.roll(2));
        int e = factor(0, 0, 1);
        step("letter", kind, dice.once(2) ? 0 : e);
        int t = step("letter", kind, 0);
        for (int round = 0; round < 6; round++) {
            int first = factor(0, 1, t, t);
            int second = factor(0, 1, t, t);
            int third = dice.once(3) ? t : factor(0, 1, t, t);
            int low = step("times", second, third);
            if (dice.once(2)) {
                low = step("times", low, dice.once(2) ? second : third);
            }
            step("common", step("times", first, second), low);
            looks(step("over", first, low));
            step("same", match.model.count() - 1, first);
        }
    }

    private void looks(int q) {
        for (int part = 0; part < 5 && q < 110; part++) {
            step("part", q, part);
        }
        step("derive", q);
        step("logarithmic", q);
        step("constant", q);
    }

    /** A polynomial with some number at every power, by Horner's way in t and x. */
    private int dense(int powerT, int powerX) {
        int h = -1;
        for (int i = powerT; i >= 0; i--) {
            int line = number();
            for (int j = powerX; j > 0; j--) {
                line = step("times", line, 0);
                line = step("add", line, number());
            }
            h = h < 0 ? line : step("add", step("times", h, 1), line);
        }
        return h;
    }

    private int number() {
        return step("number", dice.roll(P), 1);
    }

    /** Fractions with many numbers that share a factor, up to the sixth powers. */
    private void denseRun() {
        step("base");
        step("letter", kind, 0);
        int first = dense(1 + dice.roll(2), 1 + dice.roll(2));
        int second = dense(1 + dice.roll(2), 1 + dice.roll(2));
        int third = dense(dice.roll(2), 1 + dice.roll(3));
        int square = step("times", first, first);
        int above = step("times", square, second);
        int below = step("times", first, third);
        for (String call : new String[] {"common", "over", "derive", "logarithmic", "times", "add", "less"}) {
            step(call, above, below);
            step(call, below, above);
            step(call, third, first);
        }
        looks(step("over", third, square));
    }

    public static void main(String[] args) {
        int runs = args.length > 0 ? Integer.parseInt(args[0]) : 120;
        for (int run = 0; run < runs; run++) {
            new OracleRuns("mixed run", run, 1000 + run).mixedRun(40 + run % 7 * 30, 4 + run % 12);
            new OracleRuns("run of factors", run, 50000 + run).factorRun();
            new OracleRuns("dense run", run, 90000 + run).denseRun();
        }
        if (args.length > 0) {
            System.out.println(counted);
        }
        Checks.finish("OracleRuns");
    }
}
