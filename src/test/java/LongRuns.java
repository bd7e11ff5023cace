import java.util.ArrayList;
import java.util.List;
import java.util.TreeMap;

/**
 * "An object is used for at most 512 calls after it has been made": runs of just as many calls, with t unset, a logarithm
 * and an exponential. No object here is used longer than that.
 */
public final class LongRuns extends Checks {
    private static final int MOST_CALLS = Tower.MOST_CALLS;
    private static final int MOST = 120;
    private static final int NUMBERS = 98;

    private static final String[] MAKING = {"number", "base", "letter", "top", "add", "less", "times", "over", "derive",
        "logarithmic", "part", "common"};
    private static final int[] MAKING_WEIGHTS = {6, 3, 1, 9, 11, 9, 20, 14, 10, 8, 11, 7};

    private static final String[] LOOKING = {"at", "same", "constant", "low", "count"};
    private static final int[] LOOKING_WEIGHTS = {10, 3, 3, 2, 1};

    private static final TreeMap<String, Integer> counted = new TreeMap<>();

    private record Made(String call, long[] w) { }

    private final Match match;
    private final Dice dice;
    private final int kind;
    private final List<Made> script = new ArrayList<>();

    private LongRuns(int run, int kind) {
        match = new Match("run " + run + " with letter of kind " + kind);
        dice = new Dice(7000 + run);
        this.kind = kind;
    }

    private void call(String call, long... w) {
        boolean full = match.model.count() == MOST;
        match.call(call, w);
        script.add(new Made(call, w));
        boolean told = match.got().endsWith("Exception") || match.got().equals("-1") || call.matches("same|low|constant");
        counted.merge((told ? call + " " + match.got() : call) + (full ? " at 120" : ""), 1, Integer::sum);
    }

    // ---- mixed calls

    /** Old elements are simple and young ones aren't: both are wanted; now and then one that isn't there. */
    private long handle() {
        int n = match.model.count();
        if (dice.once(30)) {
            return new long[] {-1, n, MOST, Integer.MIN_VALUE, Integer.MAX_VALUE}[dice.roll(5)];
        }
        return n == 0 ? 0 : dice.once(2) ? Math.max(0, n - 1 - dice.roll(6)) : dice.once(2) ? dice.roll(Math.min(n, 20))
            : dice.roll(n);
    }

    private long power() {
        return dice.once(40) ? 7 - 8 * dice.roll(2) : dice.once(3) ? dice.roll(7) : dice.roll(3);
    }

    private void mixedCall(String call) {
        switch (call) {
            case "number":
                call(call, dice.roll(9) - 4, dice.once(6) ? P * (dice.roll(3) - 1L) : 1 + dice.roll(4));
                break;
            case "letter":
                call(call, dice.roll(5) - 1, handle());
                break;
            case "part":
                call(call, handle(), dice.once(10) ? 5 - 6 * dice.roll(2) : dice.roll(5));
                break;
            case "at":
                call(call, handle(), power(), power(), dice.once(40) ? 2 - 3 * dice.roll(2) : dice.roll(2));
                break;
            default:
                call(call, handle(), handle());
        }
    }

    /** With t unset, what `letter` is asked for is refused. */
    private void setLetter() {
        if (kind == 0) {
            call("letter", 3, 0);
        } else {
            call("letter", kind, dice.once(2) ? 0 : match.model.count() - 1);
            call("letter", kind, 0);
        }
    }

    /** Of so many calls in a hundred, something is to be made. */
    private void run(int calls, int making, int letterAfter) {
        call("count");
        call("top");
        call("base");
        call("number", 1 + dice.roll(3), 1);
        while (script.size() < letterAfter) {
            call("add", dice.roll(2), match.model.count() - 1);
            call("over", dice.roll(2), match.model.count() - 1);
        }
        setLetter();
        while (script.size() < calls) {
            boolean make = dice.roll(100) < making;
            String call = make ? dice.pick(MAKING, MAKING_WEIGHTS) : dice.pick(LOOKING, LOOKING_WEIGHTS);
            mixedCall(call.equals("letter") && kind == 0 ? "top" : call);
        }
        due("calls made", match.calls(), calls);
    }

    private static void mixedRuns(int runs) {
        for (int run = 0; run < runs; run++) {
            for (int kind = 0; kind <= 2; kind++) {
                new LongRuns(run, kind).run(MOST_CALLS, 20 + 15 * (run % 5), 6 + run % 7);
            }
        }
    }

    // ---- every number of every element, by the 512th call

    /** Makes the same calls once more for each element, and looks at it with the last calls that are left. */
    private static void wholeElements(int run, int kind, int making) {
        LongRuns first = new LongRuns(run, kind);
        first.run(MOST_CALLS - NUMBERS, making, 8);
        for (int h = 0; h < first.match.model.count(); h++) {
            Tower again = new Tower();
            for (Made made : first.script) {
                again.answer(made.call, made.w);
            }
            for (int i = 0; i < NUMBERS; i++) {
                int due = first.match.model.number(h, i / 2 / 7, i / 2 % 7, i % 2);
                due("run " + run + ", element " + h + ", number " + i, again.at(h, i / 2 / 7, i / 2 % 7, i % 2), due);
            }
        }
    }

    // ---- each call as the 512th

    /** x, 1, xx, then t or 1, then 0, and bases up to as many elements as wanted: all in the first calls. */
    private static Match begun(int kind, int elements) {
        Match match = new Match("letter of kind " + kind + ", " + elements + " elements");
        match.call("base");
        match.call("number", 1, 1);
        match.call("times", 0, 0);
        if (kind == 0) {
            match.call("over", 1, 1);
        } else {
            match.call("letter", kind, kind == 1 ? 0 : 2);
        }
        match.call("less", 1, 1);
        while (match.model.count() < elements) {
            match.call("base");
        }
        return match;
    }

    /** Calls that only look, or calls that are refused, up to the 511th. */
    private static void pass(Match match, boolean looks) {
        int elements = match.model.count();
        String[] refused = {"derive", "over", "part", "add", "logarithmic", "common", "letter", "at", "same", "low"};
        for (int i = 0; match.calls() < MOST_CALLS - 1; i++) {
            if (looks) {
                match.call("at", i % elements, i % 2, i % 3, i % 5 / 4);
            } else if (i % 3 > 0) {
                match.call(refused[i % refused.length], elements, elements, 0, 0);
            } else {
                match.call("number", i, P);
            }
        }
        due("elements behind 511 calls", match.model.count(), elements);
    }

    /** What the call answers as the 512th: told by hand here, and by the model. */
    private static void last(int kind, int elements, String due, String call, long... w) {
        for (int looks = 0; looks < 2; looks++) {
            Match match = begun(kind, elements);
            pass(match, looks == 1);
            match.call(call, w);
            due(Match.told(call, w) + " as the 512th, letter of kind " + kind, match.got(), due);
            due("calls made", match.calls(), MOST_CALLS);
        }
    }

    private static void lastAnswers(int kind) {
        String five = "5";
        last(kind, 5, five, "number", 3, 2);
        last(kind, 5, five, "base");
        last(kind, 5, kind == 0 ? ARGUMENT : five, "top");
        for (String call : new String[] {"add", "less", "times", "over", "common"}) {
            last(kind, 5, five, call, 0, 3);
            last(kind, 119, "119", call, 118, 3);
        }
        for (String call : new String[] {"derive", "logarithmic"}) {
            last(kind, 5, five, call, 3);
            last(kind, 119, "119", call, 118);
        }
        for (int part = 0; part < 5; part++) {
            last(kind, 5, five, "part", 3, part);
        }
        last(kind, 5, kind == 0 ? five : ARGUMENT, "letter", 1, 0);
        last(kind, 5, kind == 0 ? five : ARGUMENT, "letter", 2, 2);
        last(kind, 5, "-1", "over", 0, 4);
        last(kind, 5, "-1", "logarithmic", 4);
        last(kind, 5, "1", "same", 3, 3);
        last(kind, 5, kind == 0 ? "1" : "0", "same", 1, 3);
        last(kind, 5, kind == 0 ? "1" : "0", "constant", 3);
        last(kind, 5, kind == 0 ? "1" : "0", "low", 3);
        last(kind, 5, kind == 0 ? "0" : "1", "at", 3, 1, 0, 0);
        last(kind, 5, "1", "at", 2, 0, 2, 0);
        last(kind, 5, five, "count");
        last(kind, MOST, "120", "count");
    }

    private static void lastRefusals(int kind) {
        last(kind, 5, ARITHMETIC, "number", 3, P);
        last(kind, 5, ARGUMENT, "letter", 0, 0);
        last(kind, 5, ARGUMENT, "letter", 1, 1);
        last(kind, 5, ARGUMENT, "part", 0, 5);
        last(kind, 5, ARGUMENT, "at", 0, 7, 0, 0);
        last(kind, 5, ARGUMENT, "at", 0, 0, 0, 2);
        last(kind, 5, INDEX, "at", 5, 7, 0, 0);
        last(kind, 5, INDEX, "letter", 1, 5);
        last(kind, 5, INDEX, "part", -1, 5);
        for (String call : new String[] {"add", "less", "times", "over", "common", "same"}) {
            last(kind, 5, INDEX, call, 5, 0);
            last(kind, MOST, INDEX, call, 0, MOST);
        }
        for (String call : new String[] {"derive", "logarithmic", "constant", "low"}) {
            last(kind, 5, INDEX, call, 5);
            last(kind, MOST, INDEX, call, -1);
        }
        for (String call : new String[] {"add", "less", "times", "over", "common"}) {
            last(kind, MOST, STATE, call, 0, 4);
        }
        for (String call : new String[] {"base", "top", "derive", "logarithmic"}) {
            last(kind, MOST, STATE, call, 4);
        }
        last(kind, MOST, STATE, "number", 1, 0);
        last(kind, MOST, STATE, "letter", 3, 1);
        last(kind, MOST, STATE, "part", 0, 5);
    }

    private static void lastCalls() {
        for (int kind = 0; kind <= 2; kind++) {
            lastAnswers(kind);
            lastRefusals(kind);
        }
    }

    public static void main(String[] args) {
        int runs = args.length > 0 ? Integer.parseInt(args[0]) : 60;
        mixedRuns(runs);
        for (int kind = 0; kind <= 2; kind++) {
            wholeElements(100001, kind, 45);
            wholeElements(100002, kind, 70);
        }
        lastCalls();
        if (args.length > 0) {
            counted.forEach((what, often) -> System.out.println(often + " " + what));
        }
        finish("LongRuns");
    }
}
