import java.util.Arrays;

/**
 * Polynomials of the plain model, as rows that grow as needed; divisors by primitive remainders in turn: another way
 * than that of the class, so that both hardly go wrong together.
 */
abstract class Plain {
    static final int P = 32003;

    // ---- lines in x: the length is one more than the degree

    static int[] trim(int[] a) {
        int n = a.length;
        while (n > 0 && a[n - 1] == 0) {
            n--;
        }
        return n == a.length ? a : Arrays.copyOf(a, n);
    }

    static int[] sum(int[] a, int[] b, int factor) {
        int[] c = Arrays.copyOf(a, Math.max(a.length, b.length));
        for (int i = 0; i < b.length; i++) {
            c[i] = (int) ((c[i] + (long) b[i] * factor) % P);
        }
        return trim(c);
    }

    static int[] product(int[] a, int[] b) {
        if (a.length == 0 || b.length == 0) {
            return new int[0];
        }
        int[] c = new int[a.length + b.length - 1];
        for (int i = 0; i < a.length; i++) {
            for (int j = 0; j < b.length; j++) {
                c[i + j] = (int) ((c[i + j] + (long) a[i] * b[j]) % P);
            }
        }
        return trim(c);
    }

    static int inverse(int v) {
        return java.math.BigInteger.valueOf(v).modInverse(java.math.BigInteger.valueOf(P)).intValue();
    }

    /** Quotient and what remains. */
    static int[][] divided(int[] a, int[] b) {
        int[] rest = a.clone();
        int[] quotient = new int[Math.max(0, a.length - b.length + 1)];
        int back = inverse(b[b.length - 1]);
        for (int i = quotient.length - 1; i >= 0; i--) {
            int f = (int) ((long) rest[i + b.length - 1] * back % P);
            quotient[i] = f;
            for (int j = 0; j < b.length; j++) {
                rest[i + j] = (int) ((rest[i + j] + (long) (P - f) * b[j]) % P);
            }
        }
        return new int[][] {trim(quotient), trim(rest)};
    }

    static int[] exact(int[] a, int[] b) {
        int[][] both = divided(a, b);
        if (both[1].length != 0) {
            throw new IllegalStateException("the model divides wrongly");
        }
        return both[0];
    }

    static int[] commonLine(int[] a, int[] b) {
        return b.length == 0 ? a : commonLine(b, divided(a, b)[1]);
    }

    static int[] slopeLine(int[] a) {
        int[] c = new int[Math.max(0, a.length - 1)];
        for (int i = 1; i < a.length; i++) {
            c[i - 1] = (int) ((long) a[i] * i % P);
        }
        return trim(c);
    }

    // ---- polynomials: rows of lines by the power of t

    static final int[][] ZERO = {};
    static final int[][] ONE = {{1}};

    static int[][] trim(int[][] a) {
        int n = a.length;
        while (n > 0 && a[n - 1].length == 0) {
            n--;
        }
        return n == a.length ? a : Arrays.copyOf(a, n);
    }

    static int[] row(int[][] a, int i) {
        return i < a.length ? a[i] : new int[0];
    }

    static int[][] sum(int[][] a, int[][] b, int factor) {
        int[][] c = new int[Math.max(a.length, b.length)][];
        for (int i = 0; i < c.length; i++) {
            c[i] = sum(row(a, i), row(b, i), factor);
        }
        return trim(c);
    }

    static int[][] product(int[][] a, int[][] b) {
        int[][] c = new int[a.length + b.length][0];
        for (int i = 0; i < a.length; i++) {
            for (int j = 0; j < b.length; j++) {
                c[i + j] = sum(c[i + j], product(a[i], b[j]), 1);
            }
        }
        return trim(c);
    }

    static int[][] raised(int[][] a, int shift) {
        int[][] c = new int[a.length + shift][0];
        System.arraycopy(a, 0, c, shift, a.length);
        return c;
    }

    static int[] content(int[][] a) {
        int[] c = new int[0];
        for (int[] line : a) {
            c = commonLine(c, line);
        }
        return c;
    }

    static int[][] primitive(int[][] a) {
        int[] c = content(a);
        int[][] p = new int[a.length][];
        for (int i = 0; i < a.length; i++) {
            p[i] = exact(a[i], c);
        }
        return p;
    }

    static int[][] remains(int[][] a, int[][] b) {
        int[][] r = a;
        while (r.length >= b.length) {
            int[][] up = raised(product(b, new int[][] {r[r.length - 1]}), r.length - b.length);
            r = sum(product(r, new int[][] {b[b.length - 1]}), up, P - 1);
            if (r.length > 0) {
                r = primitive(r);
            }
        }
        return r;
    }

    static int[][] monic(int[][] a) {
        if (a.length == 0) {
            return a;
        }
        int[] head = a[a.length - 1];
        return product(a, new int[][] {{inverse(head[head.length - 1])}});
    }

    static int[][] common(int[][] a, int[][] b) {
        if (a.length == 0 || b.length == 0) {
            return monic(a.length == 0 ? b : a);
        }
        int[] c = commonLine(content(a), content(b));
        int[][] p = primitive(a);
        int[][] q = primitive(b);
        while (q.length > 0) {
            int[][] r = remains(p, q);
            p = q;
            q = r;
        }
        return monic(product(primitive(p), new int[][] {c}));
    }

    static int[][] exact(int[][] a, int[][] b) {
        int[][] rest = a;
        int[][] quotient = new int[Math.max(0, a.length - b.length + 1)][0];
        for (int i = quotient.length - 1; i >= 0; i--) {
            quotient[i] = exact(row(rest, i + b.length - 1), b[b.length - 1]);
            rest = sum(rest, raised(product(b, new int[][] {quotient[i]}), i), P - 1);
        }
        if (rest.length != 0) {
            throw new IllegalStateException("the model divides wrongly");
        }
        return trim(quotient);
    }

    static int[][] slopeByX(int[][] p) {
        int[][] c = new int[p.length][];
        for (int i = 0; i < p.length; i++) {
            c[i] = slopeLine(p[i]);
        }
        return trim(c);
    }

    static int[][] slopeByT(int[][] p) {
        int[][] c = new int[Math.max(0, p.length - 1)][];
        for (int i = 1; i < p.length; i++) {
            c[i - 1] = product(p[i], new int[] {i});
        }
        return trim(c);
    }
}
