import java.util.ArrayList;
import java.util.List;
import java.util.Set;

/**
 * An object as the tests use it: with the document's calls, but as often as a test likes. Behind the 512 calls that are
 * promised a new object takes its place, which has been given the calls that made elements, and the last that made none.
 */
final class Tower {
    static final int MOST_CALLS = 512;

    private static final Set<String> LOOKING = Set.of("same", "constant", "low", "at", "count");

    private record Act(String call, long[] w) { }

    private final List<Act> made = new ArrayList<>();
    private Act nothingMade = null;
    private TowerFields live = new TowerFields();
    private int used = 0;

    /** What was seen of all elements since the last one was made; null if nobody looked. */
    private String seen = null;

    /** Another object in the same state. */
    Tower again() {
        Tower other = new Tower();
        other.made.addAll(made);
        other.nothingMade = nothingMade;
        other.renew();
        return other;
    }

    String seen() {
        return seen;
    }

    void remember(String picture) {
        seen = picture;
    }

    int callsLeft() {
        return MOST_CALLS - used;
    }

    private void renew() {
        live = new TowerFields();
        used = 0;
        for (int i = 0; i < made.size(); i++) {
            if (once(made.get(i)) != i) {
                throw new IllegalStateException("the same calls gave another answer");
            }
        }
        if (nothingMade != null) {
            try {
                once(nothingMade);
            } catch (RuntimeException e) {
                // It is refused here as it was there.
            }
        }
    }

    /** A boolean is answered as 1 or 0. */
    long run(String call, long... w) {
        if (used == MOST_CALLS) {
            renew();
        }
        Act act = new Act(call, w);
        boolean looking = LOOKING.contains(call);
        try {
            long got = once(act);
            if (!looking) {
                keep(act, got);
            }
            return got;
        } catch (RuntimeException e) {
            nothingMade = act;
            throw e;
        }
    }

    private void keep(Act act, long got) {
        if (got >= 0) {
            made.add(act);
            seen = null;
        }
        nothingMade = got >= 0 ? null : act;
    }

    /** The answer, or the name of what is thrown. */
    String answer(String call, long... w) {
        try {
            return "" + run(call, w);
        } catch (RuntimeException e) {
            return e.getClass().getSimpleName();
        }
    }

    private long once(Act act) {
        used++;
        long[] w = act.w;
        int a = w.length > 0 ? (int) w[0] : 0;
        int b = w.length > 1 ? (int) w[1] : 0;
        switch (act.call) {
            case "number": return live.number(w[0], w[1]);
            case "base": return live.base();
            case "letter": return live.letter(a, b);
            case "top": return live.top();
            case "add": return live.add(a, b);
            case "less": return live.less(a, b);
            case "times": return live.times(a, b);
            case "over": return live.over(a, b);
            case "derive": return live.derive(a);
            case "logarithmic": return live.logarithmic(a);
            case "part": return live.part(a, b);
            case "common": return live.common(a, b);
            case "same": return live.same(a, b) ? 1 : 0;
            case "constant": return live.constant(a) ? 1 : 0;
            case "low": return live.low(a) ? 1 : 0;
            case "at": return live.at(a, b, (int) w[2], (int) w[3]);
            case "count": return live.count();
            default: throw new UnsupportedOperationException("no such call: " + act.call);
        }
    }

    int number(long above, long below) {
        return (int) run("number", above, below);
    }

    int base() {
        return (int) run("base");
    }

    int letter(int kind, int e) {
        return (int) run("letter", kind, e);
    }

    int top() {
        return (int) run("top");
    }

    int add(int a, int b) {
        return (int) run("add", a, b);
    }

    int less(int a, int b) {
        return (int) run("less", a, b);
    }

    int times(int a, int b) {
        return (int) run("times", a, b);
    }

    int over(int a, int b) {
        return (int) run("over", a, b);
    }

    int derive(int a) {
        return (int) run("derive", a);
    }

    int logarithmic(int a) {
        return (int) run("logarithmic", a);
    }

    int part(int a, int kind) {
        return (int) run("part", a, kind);
    }

    int common(int a, int b) {
        return (int) run("common", a, b);
    }

    boolean same(int a, int b) {
        return run("same", a, b) == 1;
    }

    boolean constant(int a) {
        return run("constant", a) == 1;
    }

    boolean low(int a) {
        return run("low", a) == 1;
    }

    int at(int a, int powerT, int powerX, int part) {
        return (int) run("at", a, powerT, powerX, part);
    }

    int count() {
        return (int) run("count");
    }
}
