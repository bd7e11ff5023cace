/** What the tests by hand share: comparing answers, telling an element as a text, towers to begin with. */
abstract class Checks {
    static final int P = 32003;
    static final String INDEX = "IndexOutOfBoundsException";
    static final String STATE = "IllegalStateException";
    static final String ARGUMENT = "IllegalArgumentException";
    static final String ARITHMETIC = "ArithmeticException";

    static final String NONE = "";
    static final String LOG = "log 1x1";
    static final String EXP = "exp 1x1";
    static final String[] LETTERS = {NONE, LOG, EXP};
    static final String[] BOTH = {LOG, EXP};

    /** What `picture` asks of an element. */
    private static final int LOOKS = 100;

    private static int wrong = 0;
    private static int looked = 0;
    private static int promise = 0;

    interface Call {
        long run();
    }

    /** A call with two elements that makes one. */
    interface Pair {
        int run(Tower x, int a, int b);
    }

    /** A call with one element that makes one. */
    interface Single {
        int run(Tower x, int a);
    }

    static void due(String what, Object got, Object want) {
        looked++;
        if (!got.equals(want)) {
            wrong++;
            System.out.println("promise " + promise + ": " + what + " answered " + got + ", due is " + want);
        }
    }

    /** The call throws exactly this, and changes nothing. */
    static void refused(Tower x, String what, String name, Call call) {
        String before = x.seen() == null ? picture(x) : x.seen();
        String got;
        try {
            got = "" + call.run();
        } catch (RuntimeException e) {
            got = e.getClass().getSimpleName();
        }
        due(what, got, name);
        String after = picture(x);
        due(what + ", then the state", after, before);
        x.remember(after);
    }

    /** All that can be seen of an object without changing it, looked at in others in the same state. */
    static String picture(Tower x) {
        StringBuilder s = new StringBuilder();
        Tower copy = x.again();
        int count = copy.count();
        s.append(count).append(':');
        for (int h = 0; h < count; h++) {
            if (copy.callsLeft() < LOOKS) {
                copy = x.again();
            }
            s.append(text(copy, h, 0)).append(" / ").append(text(copy, h, 1)).append(copy.low(h)).append(copy.constant(h));
        }
        return s.toString();
    }

    /** The polynomial above or below, its terms falling by powers of t, then of x. */
    static String text(Tower x, int h, int part) {
        StringBuilder s = new StringBuilder();
        for (int t = 6; t >= 0; t--) {
            for (int p = 6; p >= 0; p--) {
                int n = x.at(h, t, p, part);
                if (n != 0) {
                    s.append(s.length() > 0 ? " + " : "");
                    s.append(n > P / 2 ? n - P : n);
                    s.append(p == 0 ? "" : "x" + p).append(t == 0 ? "" : "t" + t);
                }
            }
        }
        return s.length() == 0 ? "0" : s.toString();
    }

    static void element(Tower x, String what, int handle, String above, String below) {
        due(what + " made the last", handle, x.count() - 1);
        due(what + " above", text(x, handle, 0), above);
        due(what + " below", text(x, handle, 1), below);
    }

    static int n(Tower x, long value) {
        return x.number(value, 1);
    }

    static int power(Tower x, int a, int e) {
        int h = n(x, 1);
        for (int i = 0; i < e; i++) {
            h = x.times(h, a);
        }
        return h;
    }

    /** A tower in which 0 is x, 1 is 1, 2 is the element xx, 3 is t: log x or exp xx. */
    static Tower tower(int kind) {
        Tower x = new Tower();
        x.base();
        n(x, 1);
        x.times(0, 0);
        x.letter(kind, kind == 1 ? 0 : 2);
        return x;
    }

    /** The same with 0 at 4, and x once more up to as many elements as wanted. */
    static Tower filled(int kind, int wanted) {
        Tower x = tower(kind);
        x.less(1, 1);
        while (x.count() < wanted) {
            x.base();
        }
        return x;
    }

    static Tower full(int kind) {
        return filled(kind, 120);
    }

    /** With a letter, a call of one element or two, as texts: what is due is an element, an answer or an exception. */
    static void row(String letter, String call, String first, String second, String due) {
        Bench bench = new Bench(letter);
        int a = bench.make(first);
        int b = second.isEmpty() ? a : bench.make(second);
        String what = letter + ": " + call + " of " + first + (second.isEmpty() ? "" : " and " + second);
        String[] before = picture(bench.tower).split(":", 2);
        due(what, bench.answer(call, a, b), due);
        String[] after = picture(bench.tower).split(":", 2);
        int more = due.contains(" / ") ? 1 : 0;
        due(what + ", then count", after[0], "" + (Integer.parseInt(before[0]) + more));
        due(what + ", then what stood before", after[1].startsWith(before[1]), true);
    }

    /** Runs the tests of promise 1, 2, .. in turn. */
    static void runAll(String name, Runnable[] promises) {
        for (Runnable one : promises) {
            promise++;
            one.run();
        }
        finish(name);
    }

    /** Fails if an answer was wrong, here or beside a model. */
    static void finish(String name) {
        int all = wrong + Match.wrong();
        System.out.println(name + ": " + (looked + Match.answers()) + " answers, " + all + " wrong");
        if (all > 0) {
            System.exit(1);
        }
    }
}
