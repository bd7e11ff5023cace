import java.util.ArrayList;
import java.util.Arrays;
import java.util.List;

/** A plain model of the class: the special part by the theorem that the document tells, quotients' derivations apart. */
final class Model extends Plain {
    /** The exception that the document asks for. */
    private static final class Refused extends RuntimeException {
        private static final long serialVersionUID = 1;
        final String name;

        Refused(String name) {
            super(name);
            this.name = name;
        }
    }

    record Fraction(int[][] above, int[][] below) {
        int greatest() {
            int g = Math.max(above.length, below.length) - 1;
            for (int[] line : above) {
                g = Math.max(g, line.length - 1);
            }
            for (int[] line : below) {
                g = Math.max(g, line.length - 1);
            }
            return g;
        }

        int number(int powerT, int powerX, int part) {
            int[] line = row(part == 0 ? above : below, powerT);
            return powerX < line.length ? line[powerX] : 0;
        }

        boolean isZero() {
            return above.length == 0;
        }

        boolean isLow() {
            return above.length < 2 && below.length < 2;
        }

        boolean isSame(Fraction other) {
            return Arrays.deepEquals(above, other.above) && Arrays.deepEquals(below, other.below);
        }
    }

    private static final int[][] T = {{}, {1}};

    private final List<Fraction> made = new ArrayList<>();
    private int letterKind = 0;
    private Fraction slopeOfT = new Fraction(ZERO, ONE);

    int count() {
        return made.size();
    }

    /** What the call answers, a boolean as 1 or 0, or the name of the exception. */
    String answer(String call, long... w) {
        try {
            return "" + run(call, w);
        } catch (Refused e) {
            return e.name;
        }
    }

    private long run(String call, long[] w) {
        switch (call) {
            case "number":
                return number(w[0], w[1]);
            case "base":
                return one(new int[][] {{0, 1}});
            case "letter":
                return letter(w[0], get(w[1]));
            case "top":
                room();
                refuse(letterKind == 0, "IllegalArgumentException");
                return one(T);
            case "part":
                return part(get(w[0]), w[1]);
            case "derive":
            case "logarithmic":
                return slopes(call, get(w[0]));
            case "constant":
                return slope(get(w[0])).isZero() ? 1 : 0;
            case "low":
                return get(w[0]).isLow() ? 1 : 0;
            case "at":
                return at(get(w[0]), w[1], w[2], w[3]);
            case "count":
                return made.size();
            case "same":
                return get(w[0]).isSame(get(w[1])) ? 1 : 0;
            default:
                return pair(call, get(w[0]), get(w[1]));
        }
    }

    int number(int handle, int powerT, int powerX, int part) {
        return made.get(handle).number(powerT, powerX, part);
    }

    private static void refuse(boolean when, String name) {
        if (when) {
            throw new Refused(name);
        }
    }

    private Fraction get(long a) {
        refuse(a < 0 || a >= made.size(), "IndexOutOfBoundsException");
        return made.get((int) a);
    }

    private void room() {
        refuse(made.size() >= 120, "IllegalStateException");
    }

    private int keep(Fraction f) {
        refuse(f.greatest() > 6, "IllegalStateException");
        made.add(f);
        return made.size() - 1;
    }

    private int one(int[][] above) {
        room();
        return keep(new Fraction(above, ONE));
    }

    private int number(long above, long below) {
        room();
        refuse(Math.floorMod(below, P) == 0, "ArithmeticException");
        int value = (int) ((long) Math.floorMod(above, P) * inverse(Math.floorMod(below, P)) % P);
        return one(value == 0 ? ZERO : new int[][] {{value}});
    }

    private int letter(long kind, Fraction e) {
        room();
        refuse(letterKind != 0 || kind < 1 || kind > 2 || slope(e).isZero(), "IllegalArgumentException");
        slopeOfT = kind == 1 ? through(slope(e), e) : times(slope(e), new Fraction(T, ONE));
        letterKind = (int) kind;
        return one(T);
    }

    private int part(Fraction f, long kind) {
        room();
        refuse(kind < 0 || kind > 4, "IllegalArgumentException");
        if (kind < 2) {
            return one(kind == 0 ? f.above : f.below);
        }
        int[][] p = primitive(f.below);
        p = monic(exact(p, common(p, slopeByT(p))));
        int[][] special = letterKind == 2 && p[0].length == 0 ? T : ONE;
        return one(kind == 2 ? p : kind == 3 ? exact(p, special) : special);
    }

    private int slopes(String call, Fraction f) {
        room();
        if (call.equals("derive")) {
            return keep(slope(f));
        }
        return f.isZero() ? -1 : keep(through(slope(f), f));
    }

    private int pair(String call, Fraction f, Fraction g) {
        room();
        switch (call) {
            case "add":
                return keep(plus(f, g));
            case "less":
                return keep(minus(f, g));
            case "times":
                return keep(times(f, g));
            case "over":
                return g.isZero() ? -1 : keep(through(f, g));
            default:
                return one(common(f.above, g.above));
        }
    }

    private static int at(Fraction f, long powerT, long powerX, long part) {
        boolean there = powerT >= 0 && powerT <= 6 && powerX >= 0 && powerX <= 6 && (part == 0 || part == 1);
        refuse(!there, "IllegalArgumentException");
        return f.number((int) powerT, (int) powerX, (int) part);
    }

    private static Fraction lowest(int[][] above, int[][] below) {
        int[][] d = common(above, below);
        int[][] a = exact(above, d);
        int[][] b = exact(below, d);
        int[] head = b[b.length - 1];
        int[][] back = {{inverse(head[head.length - 1])}};
        return new Fraction(product(a, back), product(b, back));
    }

    private static Fraction minus(Fraction a, Fraction b) {
        return lowest(sum(product(a.above, b.below), product(b.above, a.below), P - 1), product(a.below, b.below));
    }

    private static Fraction plus(Fraction a, Fraction b) {
        return lowest(sum(product(a.above, b.below), product(b.above, a.below), 1), product(a.below, b.below));
    }

    private static Fraction times(Fraction a, Fraction b) {
        return lowest(product(a.above, b.above), product(a.below, b.below));
    }

    private static Fraction through(Fraction a, Fraction b) {
        return lowest(product(a.above, b.below), product(a.below, b.above));
    }

    /** Term by term, with the derivation of t as a fraction. */
    private Fraction slope(int[][] p) {
        return plus(new Fraction(slopeByX(p), ONE), times(new Fraction(slopeByT(p), ONE), slopeOfT));
    }

    /** By the logarithmic way: (p/q)' = p'/q - p q'/(q q). */
    private Fraction slope(Fraction f) {
        Fraction first = times(slope(f.above), new Fraction(ONE, f.below));
        Fraction second = times(slope(f.below), lowest(f.above, product(f.below, f.below)));
        return minus(first, second);
    }
}
