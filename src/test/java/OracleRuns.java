import java.util.ArrayList;
import java.util.Arrays;
import java.util.List;

/**
 * Runs of mixed calls, each answer compared with that of a plain model: polynomials as rows that grow as needed,
 * divisors by primitive remainders in turn, and the special part by the theorem that the document tells.
 */
public final class OracleRuns {
    private static final int P = 32003;
    private static int wrong = 0;
    private static long seed = 1;

    private static int random(int bound) {
        seed = seed * 6364136223846793005L + 1442695040888963407L;
        return (int) ((seed >>> 33) % bound);
    }

    // ---- lines in x: the length is one more than the degree

    private static int[] trim(int[] a) {
        int n = a.length;
        while (n > 0 && a[n - 1] == 0) {
            n--;
        }
        return n == a.length ? a : Arrays.copyOf(a, n);
    }

    private static int[] sum(int[] a, int[] b, int factor) {
        int[] c = Arrays.copyOf(a, Math.max(a.length, b.length));
        for (int i = 0; i < b.length; i++) {
            c[i] = (int) ((c[i] + (long) b[i] * factor) % P);
        }
        return trim(c);
    }

    private static int[] product(int[] a, int[] b) {
        if (a.length == 0 || b.length == 0) {
            return new int[0];
        }
        int[] c = new int[a.length + b.length - 1];
        for (int i = 0; i < a.length; i++) {
            for (int j = 0; j < b.length; j++) {
                c[i + j] = (int) ((c[i + j] + (long) a[i] * b[j]) % P);
            }
        }
        return trim(c);
    }

    private static int inverse(int v) {
        return java.math.BigInteger.valueOf(v).modInverse(java.math.BigInteger.valueOf(P)).intValue();
    }

    /** Quotient and what remains. */
    private static int[][] divided(int[] a, int[] b) {
        int[] rest = a.clone();
        int[] quotient = new int[Math.max(0, a.length - b.length + 1)];
        int back = inverse(b[b.length - 1]);
        for (int i = quotient.length - 1; i >= 0; i--) {
            int f = (int) ((long) rest[i + b.length - 1] * back % P);
            quotient[i] = f;
            for (int j = 0; j < b.length; j++) {
                rest[i + j] = (int) ((rest[i + j] + (long) (P - f) * b[j]) % P);
            }
        }
        return new int[][] {trim(quotient), trim(rest)};
    }

    private static int[] exact(int[] a, int[] b) {
        int[][] both = divided(a, b);
        if (both[1].length != 0) {
            throw new IllegalStateException("the model divides wrongly");
        }
        return both[0];
    }

    private static int[] commonLine(int[] a, int[] b) {
        return b.length == 0 ? a : commonLine(b, divided(a, b)[1]);
    }

    private static int[] slopeLine(int[] a) {
        int[] c = new int[Math.max(0, a.length - 1)];
        for (int i = 1; i < a.length; i++) {
            c[i - 1] = (int) ((long) a[i] * i % P);
        }
        return trim(c);
    }

    // ---- polynomials: rows of lines by the power of t

    private static final int[][] ZERO = {};
    private static final int[][] ONE = {{1}};

    private static int[][] trim(int[][] a) {
        int n = a.length;
        while (n > 0 && a[n - 1].length == 0) {
            n--;
        }
        return n == a.length ? a : Arrays.copyOf(a, n);
    }

    private static int[] row(int[][] a, int i) {
        return i < a.length ? a[i] : new int[0];
    }

    private static int[][] sum(int[][] a, int[][] b, int factor) {
        int[][] c = new int[Math.max(a.length, b.length)][];
        for (int i = 0; i < c.length; i++) {
            c[i] = sum(row(a, i), row(b, i), factor);
        }
        return trim(c);
    }

    private static int[][] product(int[][] a, int[][] b) {
        int[][] c = new int[a.length + b.length][0];
        for (int i = 0; i < a.length; i++) {
            for (int j = 0; j < b.length; j++) {
                c[i + j] = sum(c[i + j], product(a[i], b[j]), 1);
            }
        }
        return trim(c);
    }

    private static int[][] raised(int[][] a, int shift) {
        int[][] c = new int[a.length + shift][0];
        System.arraycopy(a, 0, c, shift, a.length);
        return c;
    }

    private static int[] content(int[][] a) {
        int[] c = new int[0];
        for (int[] line : a) {
            c = commonLine(c, line);
        }
        return c;
    }

    private static int[][] primitive(int[][] a) {
        int[] c = content(a);
        int[][] p = new int[a.length][];
        for (int i = 0; i < a.length; i++) {
            p[i] = exact(a[i], c);
        }
        return p;
    }

    private static int[][] remains(int[][] a, int[][] b) {
        int[][] r = a;
        while (r.length >= b.length) {
            int[][] up = raised(product(b, new int[][] {r[r.length - 1]}), r.length - b.length);
            r = sum(product(r, new int[][] {b[b.length - 1]}), up, P - 1);
            if (r.length > 0) {
                r = primitive(r);
            }
        }
        return r;
    }

    private static int[][] monic(int[][] a) {
        if (a.length == 0) {
            return a;
        }
        int[] head = a[a.length - 1];
        return product(a, new int[][] {{inverse(head[head.length - 1])}});
    }

    private static int[][] common(int[][] a, int[][] b) {
        if (a.length == 0 || b.length == 0) {
            return monic(a.length == 0 ? b : a);
        }
        int[] c = commonLine(content(a), content(b));
        int[][] p = primitive(a);
        int[][] q = primitive(b);
        while (q.length > 0) {
            int[][] r = remains(p, q);
            p = q;
            q = r;
        }
        return monic(product(primitive(p), new int[][] {c}));
    }

    private static int[][] exact(int[][] a, int[][] b) {
        int[][] rest = a;
        int[][] quotient = new int[Math.max(0, a.length - b.length + 1)][0];
        for (int i = quotient.length - 1; i >= 0; i--) {
            quotient[i] = exact(row(rest, i + b.length - 1), b[b.length - 1]);
            rest = sum(rest, raised(product(b, new int[][] {quotient[i]}), i), P - 1);
        }
        if (rest.length != 0) {
            throw new IllegalStateException("the model divides wrongly");
        }
        return trim(quotient);
    }

    // ---- the model of the class

    private static final class Refused extends RuntimeException {
        private static final long serialVersionUID = 1;
        final String name;

        Refused(String name) {
            super(name);
            this.name = name;
        }
    }

    private record Fraction(int[][] above, int[][] below) {
        int greatest() {
            int g = Math.max(above.length, below.length) - 1;
            for (int[] line : above) {
                g = Math.max(g, line.length - 1);
            }
            for (int[] line : below) {
                g = Math.max(g, line.length - 1);
            }
            return g;
        }
    }

    private static Fraction lowest(int[][] above, int[][] below) {
        int[][] d = common(above, below);
        int[][] a = exact(above, d);
        int[][] b = exact(below, d);
        int[] head = b[b.length - 1];
        int[][] back = {{inverse(head[head.length - 1])}};
        return new Fraction(product(a, back), product(b, back));
    }

    private static Fraction minus(Fraction a, Fraction b) {
        return lowest(sum(product(a.above, b.below), product(b.above, a.below), P - 1), product(a.below, b.below));
    }

    private static Fraction plus(Fraction a, Fraction b) {
        return lowest(sum(product(a.above, b.below), product(b.above, a.below), 1), product(a.below, b.below));
    }

    private static Fraction times(Fraction a, Fraction b) {
        return lowest(product(a.above, b.above), product(a.below, b.below));
    }

    private static Fraction through(Fraction a, Fraction b) {
        return lowest(product(a.above, b.below), product(a.below, b.above));
    }

    private static final class Model {
        final List<Fraction> made = new ArrayList<>();
        int kind = 0;
        Fraction slopeOfT = new Fraction(ZERO, ONE);

        Fraction get(int a) {
            if (a < 0 || a >= made.size()) {
                throw new Refused("IndexOutOfBoundsException");
            }
            return made.get(a);
        }

        void room() {
            if (made.size() >= 120) {
                throw new Refused("IllegalStateException");
            }
        }

        int keep(Fraction f) {
            if (f.greatest() > 6) {
                throw new Refused("IllegalStateException");
            }
            made.add(f);
            return made.size() - 1;
        }

        /** Term by term, with the derivation of t as a fraction. */
        Fraction slope(int[][] p) {
            int[][] byX = new int[p.length][];
            int[][] byT = new int[Math.max(0, p.length - 1)][];
            for (int i = 0; i < p.length; i++) {
                byX[i] = slopeLine(p[i]);
                if (i > 0) {
                    byT[i - 1] = product(p[i], new int[] {i});
                }
            }
            return plus(new Fraction(trim(byX), ONE), times(new Fraction(trim(byT), ONE), slopeOfT));
        }

        /** By the logarithmic way: (p/q)' = p'/q - p q'/(q q). */
        Fraction slope(Fraction f) {
            Fraction first = times(slope(f.above), new Fraction(ONE, f.below));
            Fraction second = times(slope(f.below), lowest(f.above, product(f.below, f.below)));
            return minus(first, second);
        }

        int letter(int newKind, int e) {
            Fraction f = get(e);
            room();
            if (kind != 0 || newKind < 1 || newKind > 2 || slope(f).above.length == 0) {
                throw new Refused("IllegalArgumentException");
            }
            int[][] t = {{}, {1}};
            slopeOfT = newKind == 1 ? through(slope(f), f) : times(slope(f), new Fraction(t, ONE));
            kind = newKind;
            return keep(new Fraction(t, ONE));
        }

        int part(int a, int which) {
            Fraction f = get(a);
            room();
            if (which < 0 || which > 4) {
                throw new Refused("IllegalArgumentException");
            }
            if (which < 2) {
                return keep(new Fraction(which == 0 ? f.above : f.below, ONE));
            }
            int[][] p = primitive(f.below);
            int[][] byT = new int[p.length - 1][];
            for (int i = 1; i < p.length; i++) {
                byT[i - 1] = product(p[i], new int[] {i});
            }
            p = monic(exact(p, common(p, trim(byT))));
            boolean hasT = kind == 2 && p[0].length == 0;
            int[][] special = hasT ? new int[][] {{}, {1}} : ONE;
            return keep(new Fraction(which == 2 ? p : which == 3 ? exact(p, special) : special, ONE));
        }

        long call(int which, long[] w) {
            int a = (int) w[0];
            int b = (int) w[1];
            switch (which) {
                case 0: {
                    room();
                    if (Math.floorMod(w[1], P) == 0) {
                        throw new Refused("ArithmeticException");
                    }
                    int value = (int) ((long) Math.floorMod(w[0], P) * inverse(Math.floorMod(w[1], P)) % P);
                    return keep(new Fraction(value == 0 ? ZERO : new int[][] {{value}}, ONE));
                }
                case 1:
                    room();
                    return keep(new Fraction(new int[][] {{0, 1}}, ONE));
                case 2:
                    return letter(b, a);
                case 3:
                    room();
                    if (kind == 0) {
                        throw new Refused("IllegalArgumentException");
                    }
                    return keep(new Fraction(new int[][] {{}, {1}}, ONE));
                case 4: case 5: case 6: case 7: {
                    Fraction f = get(a);
                    Fraction g = get(b);
                    room();
                    if (which == 7 && g.above.length == 0) {
                        return -1;
                    }
                    return keep(which == 4 ? plus(f, g) : which == 5 ? minus(f, g)
                        : which == 6 ? times(f, g) : through(f, g));
                }
                case 8: {
                    Fraction f = get(a);
                    room();
                    return keep(slope(f));
                }
                case 9: {
                    Fraction f = get(a);
                    room();
                    return f.above.length == 0 ? -1 : keep(through(slope(f), f));
                }
                case 10:
                    return part(a, b);
                case 11: {
                    Fraction f = get(a);
                    Fraction g = get(b);
                    room();
                    return keep(new Fraction(common(f.above, g.above), ONE));
                }
                case 12:
                    return Arrays.deepEquals(get(a).above, get(b).above)
                        && Arrays.deepEquals(get(a).below, get(b).below) ? 1 : 0;
                case 13:
                    return slope(get(a)).above.length == 0 ? 1 : 0;
                case 14:
                    return get(a).above.length < 2 && get(a).below.length < 2 ? 1 : 0;
                default:
                    return made.size();
            }
        }
    }

    private static long real(TowerFields x, int which, long[] w) {
        int a = (int) w[0];
        int b = (int) w[1];
        switch (which) {
            case 0: return x.number(w[0], w[1]);
            case 1: return x.base();
            case 2: return x.letter(b, a);
            case 3: return x.top();
            case 4: return x.add(a, b);
            case 5: return x.less(a, b);
            case 6: return x.times(a, b);
            case 7: return x.over(a, b);
            case 8: return x.derive(a);
            case 9: return x.logarithmic(a);
            case 10: return x.part(a, b);
            case 11: return x.common(a, b);
            case 12: return x.same(a, b) ? 1 : 0;
            case 13: return x.constant(a) ? 1 : 0;
            case 14: return x.low(a) ? 1 : 0;
            default: return x.count();
        }
    }

    private static final String[] NAMES = {"number", "base", "letter", "top", "add", "less", "times", "over", "derive",
        "logarithmic", "part", "common", "same", "constant", "low", "count"};

    private static String answer(Model m, TowerFields x, int which, long[] w) {
        try {
            return "" + (m == null ? real(x, which, w) : m.call(which, w));
        } catch (Refused e) {
            return e.name;
        } catch (RuntimeException e) {
            return e.getClass().getSimpleName();
        }
    }

    private static int[] answers = new int[NAMES.length];
    private static int refused = 0;

    private static void step(Model m, TowerFields x, int run, int which, long first, long second) {
        long[] w = {first, second};
        String due = answer(m, x, which, w);
        String got = answer(null, x, which, w);
        answers[which]++;
        if (due.endsWith("Exception")) {
            refused++;
        }
        if (!due.equals(got)) {
            wrong++;
            System.out.println("run " + run + ": " + NAMES[which] + "(" + first + ", " + second + ") answered "
                + got + ", due is " + due);
        }
        int last = m.made.size() - 1;
        if (last >= 0) {
            compare(m, x, run, last);
        }
    }

    private static void compare(Model m, TowerFields x, int run, int handle) {
        for (int i = 0; i < 98; i++) {
            int[][] p = i % 2 == 0 ? m.made.get(handle).above : m.made.get(handle).below;
            int[] line = row(p, i / 2 / 7);
            int due = i / 2 % 7 < line.length ? line[i / 2 % 7] : 0;
            int got = x.at(handle, i / 2 / 7, i / 2 % 7, i % 2);
            if (due != got) {
                wrong++;
                System.out.println("run " + run + ": at(" + handle + ", " + i / 2 / 7 + ", " + i / 2 % 7 + ", "
                    + i % 2 + ") answered " + got + ", due is " + due);
            }
        }
    }

    private static final int[] WEIGHTS = {2, 1, 0, 2, 8, 7, 12, 10, 5, 5, 8, 4, 2, 3, 1, 1};

    private static int pick() {
        int sum = 0;
        for (int weight : WEIGHTS) {
            sum += weight;
        }
        int r = random(sum);
        for (int i = 0; i < WEIGHTS.length; i++) {
            r -= WEIGHTS[i];
            if (r < 0) {
                return i;
            }
        }
        return 0;
    }

    private static int handle(Model m) {
        int n = m.made.size();
        if (random(40) == 0) {
            return random(2) == 0 ? -1 : n;
        }
        return n == 0 ? 0 : random(3) == 0 ? Math.max(0, n - 1 - random(4)) : random(n);
    }

    private static void mixedRun(int run, int calls, int lettersAfter) {
        Model m = new Model();
        TowerFields x = new TowerFields();
        for (int i = 0; i < calls; i++) {
            int which = i == lettersAfter || random(60) == 0 ? 2 : i < 3 ? random(2) : pick();
            long first = handle(m);
            long second = handle(m);
            if (which == 0) {
                first = random(3) == 0 ? (long) random(1 << 30) * random(1 << 30) - (1L << 57) : random(9) - 4;
                second = random(5) == 0 ? random(3) * (long) P : random(2) == 0 ? 1 : random(1 << 30) - (1L << 29);
            } else if (which == 2) {
                second = random(8) == 0 ? random(5) - 1 : 1 + run % 2;
            } else if (which == 10) {
                second = random(12) == 0 ? 5 - 6 * random(2) : random(5);
            }
            step(m, x, run, which, first, second);
        }
        for (int i = 0; i < m.made.size(); i++) {
            compare(m, x, run, i);
        }
    }

    /** Sums of products of small factors, so that fractions have much to lose and parts are many. */
    private static int factor(Model m, TowerFields x, int run, int[] letters) {
        int h = letters[random(letters.length)];
        int terms = 1 + random(2);
        for (int i = 0; i < terms; i++) {
            step(m, x, run, random(3) == 0 ? 6 : 4 + random(2), h, letters[random(letters.length)]);
            h = m.made.size() - 1;
        }
        return h;
    }

    private static void factorRun(int run) {
        Model m = new Model();
        TowerFields x = new TowerFields();
        step(m, x, run, 1, 0, 0);
        step(m, x, run, 0, 1 + random(3), 1 + random(2));
        int e = factor(m, x, run, new int[] {0, 0, 1});
        step(m, x, run, 2, random(2) == 0 ? 0 : e, 1 + run % 2);
        step(m, x, run, 2, 0, 1 + run % 2);
        int t = m.made.size() - 1;
        int[] letters = {0, 1, t, t};
        for (int round = 0; round < 6; round++) {
            int first = factor(m, x, run, letters);
            int second = factor(m, x, run, letters);
            int third = random(3) == 0 ? t : factor(m, x, run, letters);
            step(m, x, run, 6, second, third);
            int low = m.made.size() - 1;
            if (random(2) == 0) {
                step(m, x, run, 6, low, random(2) == 0 ? second : third);
                low = m.made.size() - 1;
            }
            step(m, x, run, 6, first, second);
            step(m, x, run, 11, m.made.size() - 1, low);
            step(m, x, run, 7, first, low);
            int q = m.made.size() - 1;
            for (int kind = 2; kind < 5 && q < 110; kind++) {
                step(m, x, run, 10, q, kind);
            }
            step(m, x, run, 8, q, 0);
            step(m, x, run, 9, q, 0);
            step(m, x, run, 13, q, 0);
            step(m, x, run, 12, q, first);
        }
    }

    /** A polynomial with a random number at every power, by Horner's way in t and x. */
    private static int dense(Model m, TowerFields x, int run, int powerT, int powerX) {
        int h = -1;
        for (int i = powerT; i >= 0; i--) {
            int line = -1;
            for (int j = powerX; j >= 0; j--) {
                line = plusNumber(m, x, run, line < 0 ? line : answered(m, x, run, 6, line, 0));
            }
            h = h < 0 ? line : answered(m, x, run, 4, answered(m, x, run, 6, h, 1), line);
        }
        return h;
    }

    private static int plusNumber(Model m, TowerFields x, int run, int h) {
        int number = answered(m, x, run, 0, random(P), 1);
        return h < 0 ? number : answered(m, x, run, 4, h, number);
    }

    private static int answered(Model m, TowerFields x, int run, int which, long first, long second) {
        step(m, x, run, which, first, second);
        return m.made.size() - 1;
    }

    /** Fractions with many numbers that share a factor, up to the sixth powers. */
    private static void denseRun(int run) {
        Model m = new Model();
        TowerFields x = new TowerFields();
        step(m, x, run, 1, 0, 0);
        step(m, x, run, 2, 0, 1 + run % 2);
        int first = dense(m, x, run, 1 + random(2), 1 + random(2));
        int second = dense(m, x, run, 1 + random(2), 1 + random(2));
        int third = dense(m, x, run, random(2), 1 + random(3));
        int square = answered(m, x, run, 6, first, first);
        int above = answered(m, x, run, 6, square, second);
        int below = answered(m, x, run, 6, first, third);
        for (int which : new int[] {11, 7, 8, 9, 6, 4, 5}) {
            step(m, x, run, which, above, below);
            step(m, x, run, which, below, above);
            step(m, x, run, which, third, first);
        }
        int q = answered(m, x, run, 7, third, square);
        for (int kind = 0; kind < 5; kind++) {
            step(m, x, run, 10, q, kind);
        }
        step(m, x, run, 8, q, 0);
        step(m, x, run, 9, q, 0);
    }

    public static void main(String[] args) {
        int runs = args.length > 0 ? Integer.parseInt(args[0]) : 120;
        for (int run = 0; run < runs; run++) {
            seed = 1000 + run;
            mixedRun(run, 40 + run % 7 * 30, 4 + run % 12);
            seed = 50000 + run;
            factorRun(run);
            seed = 90000 + run;
            denseRun(run);
        }
        if (args.length > 0) {
            System.out.println(Arrays.toString(answers) + ", refused " + refused);
        }
        System.out.println("OracleRuns: " + wrong + " wrong answers");
        if (wrong > 0) {
            System.exit(1);
        }
    }
}
