import java.math.BigInteger;

/** For each promise of the document: ordinary inputs, the edges that it names, and wrong inputs. */
public final class PromiseTests extends Checks {
    private static final int FIFTH = 19202;

    private static void promise1() {
        Tower x = new Tower();
        due("count", x.count(), 0);
        refused(x, "top", ARGUMENT, () -> x.top());
        refused(x, "at", INDEX, () -> x.at(0, 0, 0, 0));
        refused(x, "low", INDEX, () -> x.low(0) ? 1 : 0);
        refused(x, "letter", INDEX, () -> x.letter(1, 0));
        Tower y = tower(1);
        due("count beside another object", x.count(), 0);
        due("count of the other", y.count(), 4);
        refused(x, "top beside another object", ARGUMENT, () -> x.top());
    }

    private static void promise2() {
        Tower x = new Tower();
        long[] values = {0, 1, 2, -1, 5, P, P + 1, -P, 2L * P + 7, 16001, Integer.MIN_VALUE, Integer.MAX_VALUE,
            Long.MAX_VALUE, Long.MIN_VALUE, -9000000000L};
        BigInteger prime = BigInteger.valueOf(P);
        for (long a : values) {
            for (int j = 1; j < values.length; j += 3) {
                long b = values[j] % P == 0 ? values[j] + 3 : values[j];
                if (x.count() > 100) {
                    break;
                }
                BigInteger back = BigInteger.valueOf(b).modInverse(prime);
                int want = BigInteger.valueOf(a).multiply(back).mod(prime).intValue();
                int h = x.number(a, b);
                due("number(" + a + ", " + b + ")", h, x.count() - 1);
                due("number(" + a + ", " + b + ") above", x.at(h, 0, 0, 0), want);
                due("number(" + a + ", " + b + ") below", text(x, h, 1), "1");
            }
        }
        element(x, "number(1, 2)", x.number(1, 2), "-16001", "1");
        element(x, "number(3, 2)", x.number(3, 2), "-16000", "1");
        element(x, "number(7, -1)", x.number(7, -1), "-7", "1");
        element(x, "number(0, 5)", x.number(0, 5), "0", "1");
        element(x, "number(64006, 5)", x.number(64006, 5), "0", "1");
        for (long b : new long[] {0, P, -P, 5L * P, 32003L * 288200000000000L, -32003L * 288200000000000L}) {
            refused(x, "number(1, " + b + ")", ARITHMETIC, () -> x.number(1, b));
            refused(x, "number(0, " + b + ")", ARITHMETIC, () -> x.number(0, b));
        }
        Tower y = full(1);
        refused(y, "number at 120", STATE, () -> y.number(1, 1));
        refused(y, "number below 0 at 120", STATE, () -> y.number(1, 0));
    }

    private static void promise3() {
        Tower x = new Tower();
        element(x, "base", x.base(), "1x1", "1");
        element(x, "base again", x.base(), "1x1", "1");
        due("base's derivation is 1", text(x, x.derive(0), 0), "1");
        Tower y = full(2);
        refused(y, "base at 120", STATE, () -> y.base());
    }

    private static void promise4() {
        Tower x = new Tower();
        x.base();
        n(x, 5);
        n(x, 0);
        for (int kind : new int[] {1, 2}) {
            refused(x, "letter of a number", ARGUMENT, () -> x.letter(kind, 1));
            refused(x, "letter of 0", ARGUMENT, () -> x.letter(kind, 2));
            refused(x, "letter of -1", INDEX, () -> x.letter(kind, -1));
            refused(x, "letter of what isn't there", INDEX, () -> x.letter(kind, 3));
        }
        for (int kind : new int[] {0, 3, -1, Integer.MIN_VALUE, Integer.MAX_VALUE}) {
            refused(x, "letter of kind " + kind, ARGUMENT, () -> x.letter(kind, 0));
            refused(x, "letter of kind " + kind + " and no element", INDEX, () -> x.letter(kind, 3));
        }
        refused(x, "top after refused letters", ARGUMENT, () -> x.top());
        element(x, "letter", x.letter(2, 0), "1t1", "1");
        for (int kind = 0; kind < 4; kind++) {
            int k = kind;
            refused(x, "letter twice", ARGUMENT, () -> x.letter(k, 0));
            refused(x, "letter of t", ARGUMENT, () -> x.letter(k, 3));
            refused(x, "letter twice of no element", INDEX, () -> x.letter(k, 4));
        }
        element(x, "the first letter stays", x.derive(3), "1t1", "1");
        Tower y = new Tower();
        while (y.count() < 120) {
            y.base();
        }
        refused(y, "letter at 120", STATE, () -> y.letter(1, 0));
        refused(y, "letter of no kind at 120", STATE, () -> y.letter(7, 0));
        refused(y, "letter of no element at 120", INDEX, () -> y.letter(1, 120));
        Tower z = full(1);
        refused(z, "letter twice at 120", STATE, () -> z.letter(1, 0));
        lettersOfFractions();
        lettersWithGreatSlopes();
    }

    private static void lettersOfFractions() {
        Tower x = new Tower();
        x.base();
        n(x, 1);
        int e = x.over(0, x.add(0, 1));
        int t = x.letter(1, e);
        element(x, "derivation of log x/(x+1)", x.derive(t), "1", "1x2 + 1x1");
        Tower y = new Tower();
        y.base();
        n(y, 1);
        int f = y.over(1, 0);
        int u = y.letter(2, f);
        element(y, "derivation of exp 1/x", y.derive(u), "-1t1", "1x2");
        Tower z = new Tower();
        z.base();
        int v = z.letter(1, z.times(n(z, 7), z.times(0, z.times(0, 0))));
        element(z, "derivation of log 7xxx", z.derive(v), "3", "1x1");
    }

    /** t itself isn't too great, though its derivation is. */
    private static void lettersWithGreatSlopes() {
        for (int kind = 1; kind <= 2; kind++) {
            Tower x = new Tower();
            x.base();
            int high = x.add(power(x, 0, 6), x.add(0, n(x, 1)));
            int e = x.over(high, x.add(power(x, 0, 5), n(x, 3)));
            int t = x.letter(kind, e);
            element(x, "letter of a great slope", t, "1t1", "1");
            refused(x, "its derivation", STATE, () -> x.derive(t));
            due("constant of it", x.constant(t), false);
        }
        Tower y = new Tower();
        y.base();
        int high = y.add(power(y, 0, 6), y.add(0, n(y, 1)));
        int t = y.letter(2, high);
        element(y, "derivation of exp of a sixth power", y.derive(t), "6x5t1 + 1t1", "1");
    }

    private static void promise5() {
        Tower x = new Tower();
        x.base();
        refused(x, "top before", ARGUMENT, () -> x.top());
        refused(x, "a letter that is refused", ARGUMENT, () -> x.letter(3, 0));
        refused(x, "top still", ARGUMENT, () -> x.top());
        x.letter(1, 0);
        element(x, "top", x.top(), "1t1", "1");
        due("top is t", x.same(1, 2), true);
        Tower y = full(1);
        refused(y, "top at 120", STATE, () -> y.top());
        Tower z = new Tower();
        while (z.count() < 120) {
            z.base();
        }
        refused(z, "top before t at 120", STATE, () -> z.top());
    }

    /** What every call with two elements that makes one refuses. */
    private static void refusedPairs(String name, Pair pair) {
        Tower x = tower(1);
        for (int bad : new int[] {-1, 4, 120, Integer.MIN_VALUE, Integer.MAX_VALUE}) {
            refused(x, name + "(" + bad + ", 0)", INDEX, () -> pair.run(x, bad, 0));
            refused(x, name + "(0, " + bad + ")", INDEX, () -> pair.run(x, 0, bad));
        }
        Tower y = full(2);
        refused(y, name + " at 120", STATE, () -> pair.run(y, 0, 119));
        refused(y, name + " of 0s at 120", STATE, () -> pair.run(y, 4, 4));
        refused(y, name + "(120, 0) at 120", INDEX, () -> pair.run(y, 120, 0));
        refused(y, name + "(0, -1) at 120", INDEX, () -> pair.run(y, 0, -1));
    }

    private static void promise6() {
        Tower x = tower(1);
        element(x, "x + t", x.add(0, 3), "1t1 + 1x1", "1");
        element(x, "x + x", x.add(0, 0), "2x1", "1");
        int a = x.over(1, 3);
        int b = x.over(1, 0);
        element(x, "1/t + 1/x", x.add(a, b), "1t1 + 1x1", "1x1t1");
        element(x, "x + -x", x.add(0, x.times(0, n(x, -1))), "0", "1");
        element(x, "0 + t", x.add(x.less(3, 3), 3), "1t1", "1");
        int c = x.over(0, x.add(0, 3));
        int d = x.over(3, x.add(3, 0));
        element(x, "x/(x+t) + t/(x+t)", x.add(c, d), "1", "1");
        int e = x.over(1, power(x, 3, 6));
        element(x, "1/t^6 + 1/t^6", x.add(e, e), "2", "1t6");
        int f = x.over(1, x.add(3, 1));
        refused(x, "1/t^6 + 1/(t+1)", STATE, () -> x.add(e, f));
        int g = x.over(1, x.add(0, 1));
        int h = x.over(1, power(x, 0, 6));
        refused(x, "1/x^6 + 1/(x+1)", STATE, () -> x.add(h, g));
        refusedPairs("add", (o, i, j) -> o.add(i, j));
    }

    private static void promise7() {
        Tower x = tower(2);
        element(x, "x - t", x.less(0, 3), "-1t1 + 1x1", "1");
        element(x, "t - x", x.less(3, 0), "1t1 + -1x1", "1");
        element(x, "t - t", x.less(3, 3), "0", "1");
        int a = x.over(1, x.less(3, 0));
        int b = x.over(1, x.add(3, 0));
        element(x, "1/(t-x) - 1/(t+x)", x.less(a, b), "2x1", "1t2 + -1x2");
        element(x, "0 - x", x.less(x.less(0, 0), 0), "-1x1", "1");
        int c = power(x, 0, 6);
        int d = x.over(1, 0);
        refused(x, "x^6 - 1/x", STATE, () -> x.less(c, d));
        refusedPairs("less", (o, i, j) -> o.less(i, j));
    }

    private static void promise8() {
        Tower x = tower(1);
        element(x, "x t", x.times(0, 3), "1x1t1", "1");
        int sum = x.add(0, 3);
        int difference = x.less(3, 0);
        element(x, "(x+t)(t-x)", x.times(sum, difference), "1t2 + -1x2", "1");
        element(x, "0 t", x.times(x.less(0, 0), 3), "0", "1");
        int x6 = power(x, 0, 6);
        int t6 = power(x, 3, 6);
        element(x, "x^6", x.times(x6, 1), "1x6", "1");
        element(x, "x^6 t^6", x.times(x6, t6), "1x6t6", "1");
        refused(x, "x^7", STATE, () -> x.times(x6, 0));
        refused(x, "t^7", STATE, () -> x.times(t6, 3));
        refused(x, "x^12", STATE, () -> x.times(x6, x6));
        int back = x.over(1, t6);
        element(x, "t^6/t^6", x.times(t6, back), "1", "1");
        refused(x, "1/t^12", STATE, () -> x.times(back, back));
        int q = x.over(sum, difference);
        int r = x.over(difference, sum);
        element(x, "one through the other", x.times(q, r), "1", "1");
        int s = n(x, 30000);
        element(x, "30000 30000", x.times(s, s), "" + 30000L * 30000 % P, "1");
        refusedPairs("times", (o, i, j) -> o.times(i, j));
    }

    private static void promise9() {
        Tower x = tower(1);
        element(x, "x/t", x.over(0, 3), "1x1", "1t1");
        int zero = x.less(0, 0);
        due("x/0", x.over(0, zero), -1);
        due("0/0", x.over(zero, zero), -1);
        due("count then", x.count(), zero + 1);
        element(x, "0/t", x.over(zero, 3), "0", "1");
        int twoX = x.add(0, 0);
        element(x, "1/2x", x.over(1, twoX), "-16001", "1x1");
        int a = x.times(twoX, 3);
        int b = x.add(a, 1);
        element(x, "x/(2xt+1)", x.over(0, b), "-16001x1", "1x1t1 + -16001");
        element(x, "xx/x", x.over(2, 0), "1x1", "1");
        int c = x.less(x.times(3, 3), 2);
        element(x, "(tt-xx)/(t+x)", x.over(c, x.add(3, 0)), "1t1 + -1x1", "1");
        int x6 = power(x, 0, 6);
        int d = x.over(1, x6);
        element(x, "x^6/x^6", x.over(d, d), "1", "1");
        refused(x, "1/x^12", STATE, () -> x.over(d, x6));
        refused(x, "x^12", STATE, () -> x.over(x6, d));
        refusedPairs("over", (o, i, j) -> o.over(i, j));
    }

    private static void refusedSingles(String name, Single single) {
        Tower x = tower(2);
        for (int bad : new int[] {-1, 4, 119, 120, Integer.MIN_VALUE, Integer.MAX_VALUE}) {
            refused(x, name + "(" + bad + ")", INDEX, () -> single.run(x, bad));
        }
        Tower y = full(1);
        refused(y, name + " at 120", STATE, () -> single.run(y, 0));
        refused(y, name + " of 0 at 120", STATE, () -> single.run(y, 4));
        refused(y, name + "(120) at 120", INDEX, () -> single.run(y, 120));
    }

    private static void promise10() {
        Tower x = tower(1);
        element(x, "1'", x.derive(1), "0", "1");
        element(x, "(xx)'", x.derive(2), "2x1", "1");
        element(x, "(log x)'", x.derive(3), "1", "1x1");
        element(x, "(x log x)'", x.derive(x.times(0, 3)), "1t1 + 1", "1");
        element(x, "(1/t)'", x.derive(x.over(1, 3)), "-1", "1x1t2");
        element(x, "(1/x)'", x.derive(x.over(1, 0)), "-1", "1x2");
        element(x, "(tt/x)'", x.derive(x.over(x.times(3, 3), 0)), "-1t2 + 2t1", "1x2");
        int back = x.over(1, power(x, 3, 6));
        refused(x, "(1/t^6)'", STATE, () -> x.derive(back));
        int t6 = power(x, 3, 6);
        element(x, "(t^6)'", x.derive(t6), "6t5", "1x1");
        Tower y = tower(2);
        element(y, "(exp xx)'", y.derive(3), "2x1t1", "1");
        element(y, "(1/t)'", y.derive(y.over(1, 3)), "-2x1", "1t1");
        element(y, "(x/t)'", y.derive(y.over(0, 3)), "-2x2 + 1", "1t1");
        element(y, "(1/(t+1))'", y.derive(y.over(1, y.add(3, 1))), "-2x1t1", "1t2 + 2t1 + 1");
        int t6y = power(y, 3, 6);
        element(y, "(t^6)'", y.derive(t6y), "12x1t6", "1");
        int high = y.times(t6y, power(y, 0, 6));
        refused(y, "(x^6 t^6)'", STATE, () -> y.derive(high));
        Tower z = new Tower();
        z.base();
        element(z, "without t", z.derive(z.over(0, z.add(0, n(z, 1)))), "1", "1x2 + 2x1 + 1");
        refusedSingles("derive", (o, a) -> o.derive(a));
    }

    private static void promise11() {
        Tower x = tower(1);
        element(x, "of x", x.logarithmic(0), "1", "1x1");
        element(x, "of 1", x.logarithmic(1), "0", "1");
        element(x, "of t", x.logarithmic(3), "1", "1x1t1");
        element(x, "of 1/tt", x.logarithmic(x.over(1, x.times(3, 3))), "-2", "1x1t1");
        element(x, "of x/t", x.logarithmic(x.over(0, 3)), "1t1 + -1", "1x1t1");
        int back = x.over(1, power(x, 3, 6));
        element(x, "of 1/t^6, whose derivation is too great", x.logarithmic(back), "-6", "1x1t1");
        int zero = x.less(0, 0);
        due("of 0", x.logarithmic(zero), -1);
        due("count then", x.count(), zero + 1);
        int sum = x.add(3, power(x, 0, 6));
        int q = x.over(sum, x.add(0, 1));
        refused(x, "of (t + x^6)/(x + 1), with x^8 below", STATE, () -> x.logarithmic(q));
        Tower y = tower(2);
        element(y, "of exp xx", y.logarithmic(3), "2x1", "1");
        element(y, "of t^6", y.logarithmic(power(y, 3, 6)), "12x1", "1");
        element(y, "of t + 1", y.logarithmic(y.add(3, 1)), "2x1t1", "1t1 + 1");
        refusedSingles("logarithmic", (o, a) -> o.logarithmic(a));
    }

    private static void promise12() {
        Tower x = tower(2);
        int sum = x.add(3, 0);
        int tt = x.times(3, 3);
        int below = x.times(x.times(tt, 0), x.times(sum, x.times(sum, sum)));
        int a = x.over(x.add(3, n(x, 5)), x.times(below, n(x, 3)));
        element(x, "above", x.part(a, 0), third(1) + "t1 + " + third(5), "1");
        element(x, "below", x.part(a, 1), "1x1t5 + 3x2t4 + 3x3t3 + 1x4t2", "1");
        element(x, "each once", x.part(a, 2), "1t2 + 1x1t1", "1");
        element(x, "normal", x.part(a, 3), "1t1 + 1x1", "1");
        element(x, "special", x.part(a, 4), "1t1", "1");
        for (int kind = 1; kind <= 4; kind++) {
            element(x, "part " + kind + " of a polynomial", x.part(sum, kind), "1", "1");
            element(x, "part " + kind + " of 0", x.part(x.less(0, 0), kind), "1", "1");
        }
        element(x, "above of 0", x.part(x.less(0, 0), 0), "0", "1");
        int lowBelow = x.over(3, x.times(0, 0));
        element(x, "below of t/xx", x.part(lowBelow, 1), "1x2", "1");
        element(x, "each once of t/xx", x.part(lowBelow, 2), "1", "1");
        element(x, "each once of 1/t^6", x.part(x.over(1, power(x, 3, 6)), 2), "1t1", "1");
        int e = x.over(1, x.add(x.times(0, 3), 1));
        element(x, "a factor with x at its head", x.part(e, 3), "1x1t1 + 1", "1");
        element(x, "its special part", x.part(e, 4), "1", "1");
        for (int kind : new int[] {-1, 5, Integer.MIN_VALUE, Integer.MAX_VALUE}) {
            refused(x, "part " + kind, ARGUMENT, () -> x.part(0, kind));
            refused(x, "part " + kind + " of no element", INDEX, () -> x.part(-1, kind));
        }
        partsOfLogarithm();
        refusedSingles("part", (o, h) -> o.part(h, 2));
        Tower y = full(2);
        refused(y, "part of another kind at 120", STATE, () -> y.part(0, 5));
    }

    private static String third(int n) {
        int v = BigInteger.valueOf(3).modInverse(BigInteger.valueOf(P)).intValue() * n % P;
        return "" + (v > P / 2 ? v - P : v);
    }

    private static void partsOfLogarithm() {
        Tower x = tower(1);
        int tt = x.times(3, 3);
        int a = x.over(0, x.times(tt, x.add(3, 1)));
        element(x, "log: each once", x.part(a, 2), "1t2 + 1t1", "1");
        element(x, "log: normal", x.part(a, 3), "1t2 + 1t1", "1");
        element(x, "log: special", x.part(a, 4), "1", "1");
        int square = x.add(tt, 0);
        int b = x.over(1, x.times(square, square));
        element(x, "log: each once of a square", x.part(b, 2), "1t2 + 1x1", "1");
        Tower y = new Tower();
        y.base();
        int c = y.over(0, y.add(0, n(y, 1)));
        element(y, "before t: below", y.part(c, 1), "1x1 + 1", "1");
        element(y, "before t: each once", y.part(c, 2), "1", "1");
        element(y, "before t: normal", y.part(c, 3), "1", "1");
        element(y, "before t: special", y.part(c, 4), "1", "1");
    }

    private static void promise13() {
        Tower x = tower(1);
        int sum = x.add(3, 0);
        int square = x.times(sum, sum);
        int twice = x.times(n(x, 2), x.times(sum, 0));
        element(x, "of (t+x)^2 and 2x(t+x)", x.common(square, twice), "1t1 + 1x1", "1");
        element(x, "of x(t+x)2 and xx", x.common(twice, 2), "1x1", "1");
        element(x, "of t and x", x.common(3, 0), "1", "1");
        int zero = x.less(0, 0);
        element(x, "of 0 and 0", x.common(zero, zero), "0", "1");
        element(x, "of 0 and 2x(t+x)", x.common(zero, twice), "1x1t1 + 1x2", "1");
        element(x, "of 2x(t+x) and 0", x.common(twice, zero), "1x1t1 + 1x2", "1");
        int q = x.over(sum, 3);
        int r = x.over(square, x.add(0, 1));
        element(x, "of what is above in fractions", x.common(q, r), "1t1 + 1x1", "1");
        int seven = n(x, 7);
        element(x, "of numbers", x.common(seven, seven), "1", "1");
        element(x, "of 0 and 7", x.common(zero, seven), "1", "1");
        unluckyCommon(x);
        headsThatRepeat();
        unluckyEverywhere();
        unluckyHeads();
        refusedPairs("common", (o, i, j) -> o.common(i, j));
    }

    /** Two polynomials that have nothing in common, but do at x = 0, 1 and 2. */
    private static void unluckyCommon(Tower x) {
        int t = 3;
        int product = x.times(0, x.times(x.less(0, 1), x.less(0, n(x, 2))));
        int a = x.times(x.add(t, product), x.add(t, 1));
        int b = x.times(t, x.add(x.add(t, 1), product));
        element(x, "of what meets at some x", x.common(a, b), "1", "1");
        int c = x.times(a, x.add(x.times(0, t), 1));
        int d = x.times(b, x.add(x.times(0, t), 1));
        element(x, "of these times xt + 1", x.common(c, d), "1x1t1 + 1", "1");
    }

    /** The number at the heads is 2 at x = 0 and at x = 1. */
    private static void headsThatRepeat() {
        Tower x = tower(1);
        int one = x.add(3, 1);
        int head = x.times(x.add(x.less(2, 0), n(x, 2)), 3);
        int a = x.times(one, x.add(head, 1));
        int b = x.times(one, x.add(head, n(x, 3)));
        element(x, "of what has one head", x.common(a, b), "1t1 + 1", "1");
    }

    /** c2 xx + c1 x + c0, from the three numbers. */
    private static int quadratic(Tower x, int[] c) {
        int h = x.add(x.times(n(x, c[2]), 0), n(x, c[1]));
        return x.add(x.times(h, 0), n(x, c[0]));
    }

    /** Two products of three factors t - f: at each x from 0 to 13 one f of the first is one of the second. */
    private static void unluckyEverywhere() {
        Tower x = tower(2);
        int[][] first = {{0, 0, 0}, {11183, 17296, 23355}, {16523, 5142, 30277}};
        int[][] second = {{0, 8621, 2598}, {16367, 5193, 30274}, {22514, 14694, 1}};
        int a = 1;
        int b = 1;
        for (int i = 0; i < 3; i++) {
            a = x.times(a, x.less(3, quadratic(x, first[i])));
            b = x.times(b, x.less(3, quadratic(x, second[i])));
        }
        element(x, "of what meets at 14 places", x.common(a, b), "1", "1");
        int more = x.add(3, 1);
        element(x, "of these times t + 1", x.common(x.times(a, more), x.times(b, more)), "1t1 + 1", "1");
    }

    /** The same with heads: ((xx+1) t - f1)(t - f2) and ((xx+1) t - g1)(t - g2) meet at each x from 0 to 9. */
    private static void unluckyHeads() {
        Tower x = tower(1);
        int[][] f = {{12616, 10683, 17718}, {12265, 9721, 7568}, {12616, 19365, 8632}, {1, 4504, 2}};
        int head = x.times(x.add(2, 1), 3);
        int a = x.times(x.less(head, quadratic(x, f[0])), x.less(3, quadratic(x, f[1])));
        int b = x.times(x.less(head, quadratic(x, f[2])), x.less(3, quadratic(x, f[3])));
        element(x, "of heads that meet at 10 places", x.common(a, b), "1", "1");
        int more = x.times(0, x.add(3, 0));
        element(x, "of these times x(t + x)", x.common(x.times(a, more), x.times(b, more)), "1x1t1 + 1x2", "1");
    }

    private static void promise14() {
        Tower x = tower(1);
        due("t and t once more", x.same(3, x.top()), true);
        due("one handle", x.same(0, 0), true);
        due("x and t", x.same(0, 3), false);
        due("1 and 2", x.same(1, n(x, 2)), false);
        due("x and x + 1", x.same(0, x.add(0, 1)), false);
        due("1/x and 1/(x+1)", x.same(x.over(1, 0), x.over(1, x.add(0, 1))), false);
        int six = x.times(power(x, 0, 6), power(x, 3, 6));
        due("x^6 t^6 and twice that", x.same(six, x.add(six, six)), false);
        due("1 above x^6 t^6 and 1 above t^6", x.same(x.over(1, six), x.over(1, power(x, 3, 6))), false);
        int q = x.over(0, 3);
        int r = x.over(x.times(0, 0), x.times(0, 3));
        due("x/t and xx/xt", x.same(q, r), true);
        due("t and 1/t", x.same(3, x.over(1, 3)), false);
        due("x/t and x/x", x.same(q, x.over(0, 0)), false);
        due("1/x and 1/t", x.same(x.over(1, 0), x.over(1, 3)), false);
        due("0 and 0", x.same(x.less(0, 0), n(x, P)), true);
        due("1 and 32004", x.same(1, n(x, P + 1)), true);
        for (int bad : new int[] {-1, x.count(), Integer.MIN_VALUE, Integer.MAX_VALUE}) {
            refused(x, "same(" + bad + ", 0)", INDEX, () -> x.same(bad, 0) ? 1 : 0);
            refused(x, "same(0, " + bad + ")", INDEX, () -> x.same(0, bad) ? 1 : 0);
        }
        Tower y = full(1);
        due("same at 120", y.same(0, 119), true);
        refused(y, "same(0, 120) at 120", INDEX, () -> y.same(0, 120) ? 1 : 0);
    }

    private static void promise15() {
        for (int kind = 1; kind <= 2; kind++) {
            Tower x = tower(kind);
            due("1", x.constant(1), true);
            due("x", x.constant(0), false);
            due("t", x.constant(3), false);
            due("0", x.constant(x.less(0, 0)), true);
            due("t/t", x.constant(x.over(3, 3)), true);
            due("1/t", x.constant(x.over(1, 3)), false);
            due("2t/t", x.constant(x.over(x.add(3, 3), 3)), true);
            int high = x.times(power(x, 0, 6), power(x, 3, 6));
            due("x^6 t^6", x.constant(high), false);
            due("1/x^6 t^6", x.constant(x.over(1, high)), false);
            for (int bad : new int[] {-1, x.count(), Integer.MIN_VALUE, Integer.MAX_VALUE}) {
                refused(x, "constant(" + bad + ")", INDEX, () -> x.constant(bad) ? 1 : 0);
            }
        }
        Tower y = full(2);
        due("constant at 120", y.constant(4), true);
        due("constant of x at 120", y.constant(119), false);
    }

    private static void promise16() {
        Tower x = tower(2);
        due("x", x.low(0), true);
        due("1", x.low(1), true);
        due("t", x.low(3), false);
        due("1/t", x.low(x.over(1, 3)), false);
        due("t/t", x.low(x.over(3, 3)), true);
        due("0", x.low(x.less(3, 3)), true);
        due("t^6", x.low(power(x, 3, 6)), false);
        due("1/x", x.low(x.over(1, 0)), true);
        due("x^6 t^6", x.low(x.times(power(x, 0, 6), power(x, 3, 6))), false);
        for (int bad : new int[] {-1, x.count(), Integer.MIN_VALUE, Integer.MAX_VALUE}) {
            refused(x, "low(" + bad + ")", INDEX, () -> x.low(bad) ? 1 : 0);
        }
        Tower y = full(1);
        due("low at 120", y.low(119), true);
        refused(y, "low(120) at 120", INDEX, () -> y.low(120) ? 1 : 0);
    }

    private static void promise17() {
        Tower x = tower(1);
        int a = x.over(x.add(x.times(0, n(x, 4)), 3), x.times(x.times(0, 0), x.times(3, n(x, 5))));
        due("above 1", x.at(a, 0, 1, 0), 4 * FIFTH % P);
        due("above t", x.at(a, 1, 0, 0), FIFTH);
        due("above x t", x.at(a, 1, 1, 0), 0);
        due("below xxt", x.at(a, 1, 2, 1), 1);
        due("below t xxt turned", x.at(a, 2, 1, 1), 0);
        int b = x.add(x.times(power(x, 0, 6), power(x, 3, 6)), n(x, -1));
        due("x^6 t^6", x.at(b, 6, 6, 0), 1);
        due("-1", x.at(b, 0, 0, 0), P - 1);
        due("below", x.at(b, 0, 0, 1), 1);
        for (int bad : new int[] {-1, 7, Integer.MIN_VALUE, Integer.MAX_VALUE}) {
            refused(x, "powerT " + bad, ARGUMENT, () -> x.at(b, bad, 0, 0));
            refused(x, "powerX " + bad, ARGUMENT, () -> x.at(b, 0, bad, 0));
            refused(x, "powers at no element", INDEX, () -> x.at(-1, bad, bad, 0));
        }
        for (int bad : new int[] {-1, 2, Integer.MIN_VALUE, Integer.MAX_VALUE}) {
            refused(x, "part " + bad, ARGUMENT, () -> x.at(b, 0, 0, bad));
            refused(x, "part at no element", INDEX, () -> x.at(x.count(), 0, 0, bad));
        }
        Tower y = full(1);
        due("at of 119", y.at(119, 0, 1, 0), 1);
        refused(y, "at of 120", INDEX, () -> y.at(120, 0, 1, 0));
    }

    private static void promise18() {
        Tower x = new Tower();
        for (int i = 0; i < 120; i++) {
            due("count before " + i, x.count(), i);
            due("handle " + i, i == 1 ? x.letter(1, 0) : i % 2 == 0 ? x.base() : x.add(0, i - 1), i);
        }
        due("count at the end", x.count(), 120);
        refused(x, "one more", STATE, () -> x.base());
        due("count after a refused call", x.count(), 120);
        Tower y = tower(1);
        int zero = y.less(0, 0);
        y.over(0, zero);
        y.logarithmic(zero);
        y.same(0, 0);
        y.at(0, 0, 0, 0);
        due("count after -1 and looks", y.count(), zero + 1);
    }

    public static void main(String[] args) {
        Runnable[] promises = {PromiseTests::promise1, PromiseTests::promise2, PromiseTests::promise3,
            PromiseTests::promise4, PromiseTests::promise5, PromiseTests::promise6, PromiseTests::promise7,
            PromiseTests::promise8, PromiseTests::promise9, PromiseTests::promise10, PromiseTests::promise11,
            PromiseTests::promise12, PromiseTests::promise13, PromiseTests::promise14, PromiseTests::promise15,
            PromiseTests::promise16, PromiseTests::promise17, PromiseTests::promise18};
        runAll("PromiseTests", promises);
    }
}
