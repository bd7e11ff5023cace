/**
 * The sentences of "Terms", one by one: what holds for every element, the rules of the derivation, what normal and special
 * mean; the elements are told as texts, the rules are asked of the class's own calls.
 */
public final class TermsTests extends Checks {
    private static final String[] MANY_LETTERS = {"log 1x1", "log 5x2 + 1", "log 1x1 + 1 / 1x1", "exp 1x1", "exp 3x2",
        "exp 1 / 1x1", "exp 1x1 / 1x1 + 1"};
    private static final String[] WITHOUT_T = {"0", "1", "-2", "1x1", "1x1 + 2", "3x2 + 1", "1 / 1x1", "1x1 / 2x1 + 1"};
    private static final String[] WITH_T = {"3", "1x1", "1t1", "2x1t1 + 1", "1t1 + 1x1", "1 / 1t1", "1 / 5x1", "1x1 / 1t1 + 1",
        "1t1 + 5 / 1x1"};

    /** Each is a factor: in it is t, and it is no product. */
    private static final String[] FACTORS = {"1t1", "1t1 + 1", "1t1 + 1x1", "1x1t1 + 1", "1t2 + 1", "1t2 + 1x1",
        "1x1t1 + 1x1 + 1"};

    private static final Pair[] FOUR = {(x, a, b) -> x.add(a, b), (x, a, b) -> x.less(a, b), (x, a, b) -> x.times(a, b),
        (x, a, b) -> x.over(a, b)};

    private static boolean isOne(Tower x, int h) {
        return text(x, h, 0).equals("1") && text(x, h, 1).equals("1");
    }

    private static String[] elements(String letter) {
        return letter.isEmpty() ? WITHOUT_T : WITH_T;
    }

    // ---- "the one below is monic, and no polynomial but numbers divides both"

    /** The number at the highest power of t, of those with the highest power of x. */
    private static int head(Tower x, int h, int part) {
        for (int i = 48; i >= 0; i--) {
            int number = x.at(h, i / 7, i % 7, part);
            if (number != 0) {
                return number;
            }
        }
        return 0;
    }

    private static void inLowestTerms(String what, Tower x, int h) {
        due(what + ": head below", head(x, h, 1), 1);
        int both = x.common(x.part(h, 0), x.part(h, 1));
        due(what + ": what divides both is 1", isOne(x, both), true);
        for (int i = 0; i < 98; i++) {
            int number = x.at(h, i / 2 / 7, i / 2 % 7, i % 2);
            due(what + ": number " + i + " is modulo 32003", number >= 0 && number < P, true);
        }
    }

    private static void lowestTerms() {
        for (String letter : LETTERS) {
            for (String first : elements(letter)) {
                for (String second : elements(letter)) {
                    Bench bench = new Bench(letter);
                    int a = bench.make(first);
                    int b = bench.make(second);
                    for (int i = 0; i < 4; i++) {
                        int handle = bench.tower.count();
                        int h = FOUR[i].run(bench.tower, a, b);
                        boolean zero = i == 3 && second.equals("0");
                        due(first + " and " + second + ", handle", h, zero ? -1 : handle);
                        if (!zero) {
                            inLowestTerms(letter + ": " + first + " and " + second, bench.tower, h);
                        }
                    }
                }
            }
        }
    }

    /** "the HEAD .. is its term with the highest power of t, of those with the highest power of x". */
    private static void heads() {
        for (String letter : BOTH) {
            row(letter, "over", "1", "3x6 + 2t1", "-16001 / 1t1 + -16000x6");
            row(letter, "over", "1", "3x6 + 2x2t1 + 4x1t1 + 6t1", "-16001 / 1x2t1 + 2x1t1 + 3t1 + -16000x6");
            row(letter, "over", "2", "2t2 + 4x6t1", "1 / 1t2 + 2x6t1");
            row(letter, "common", "3x6 + 2t1", "9x6 + 6t1", "1t1 + -16000x6 / 1");
            row(letter, "common", "0", "3x6 + 2x1t1 + 4t1", "1x1t1 + 2t1 + -16000x6 / 1");
            row(letter, "part 1", "1 / 3x6 + 2t1", "", "1t1 + -16000x6 / 1");
            row(letter, "part 2", "1 / 3x6 + 2x2t1", "", "1t1 + -16000x4 / 1");
            row(letter, "part 3", "1 / 3x6 + 2x1t1 + 4t1", "", "1x1t1 + 2t1 + -16000x6 / 1");
        }
        row(NONE, "over", "1", "2x2 + 6x1 + 8", "-16001 / 1x2 + 3x1 + 4");
        row(NONE, "common", "2x2 + 6x1 + 8", "0", "1x2 + 3x1 + 4 / 1");
    }

    /** "Until then elements with t can't be made." */
    private static void noLetterYet() {
        for (String first : WITHOUT_T) {
            for (String second : WITHOUT_T) {
                Bench bench = new Bench(NONE);
                Tower x = bench.tower;
                int a = bench.make(first);
                int b = bench.make(second);
                refused(x, "top", ARGUMENT, () -> x.top());
                for (Pair call : FOUR) {
                    call.run(x, a, b);
                }
                x.derive(a);
                x.logarithmic(a);
                x.common(a, b);
                for (int kind = 0; kind < 5; kind++) {
                    x.part(a, kind);
                }
                for (int h = 0; h < x.count(); h++) {
                    due("before t, low(" + h + ")", x.low(h), true);
                }
            }
        }
    }

    // ---- "that of numbers is 0, that of x is 1; that of sums, products and quotients as always"

    private static void slopesOfPair(String letter, String first, String second) {
        Bench bench = new Bench(letter);
        Tower x = bench.tower;
        int a = bench.make(first);
        int b = bench.make(second);
        int slopeA = x.derive(a);
        int slopeB = x.derive(b);
        String what = letter + ": the derivation of " + first + " and " + second + ", their ";
        due(what + "sum", x.same(x.derive(x.add(a, b)), x.add(slopeA, slopeB)), true);
        due(what + "difference", x.same(x.derive(x.less(a, b)), x.less(slopeA, slopeB)), true);
        int left = x.times(slopeA, b);
        int right = x.times(a, slopeB);
        due(what + "product", x.same(x.derive(x.times(a, b)), x.add(left, right)), true);
        due(what + "being constant", x.constant(a), x.same(slopeA, x.less(a, a)));
        if (!second.equals("0")) {
            int quotient = x.over(x.less(left, right), x.times(b, b));
            due(what + "quotient", x.same(x.derive(x.over(a, b)), quotient), true);
            due(what + "second's logarithmic one", x.same(x.logarithmic(b), x.over(slopeB, b)), true);
        }
    }

    private static void slopeRules() {
        for (String first : WITHOUT_T) {
            for (String second : WITHOUT_T) {
                slopesOfPair(NONE, first, second);
            }
        }
        for (String letter : MANY_LETTERS) {
            for (String first : WITH_T) {
                for (String second : WITH_T) {
                    slopesOfPair(letter, first, second);
                }
            }
        }
    }

    /** "1 the LOGARITHM of an element e (its derivation is that of e through e), 2 the EXPONENTIAL of e". */
    private static void slopesOfLetters() {
        for (String letter : MANY_LETTERS) {
            Bench bench = new Bench(letter);
            Tower x = bench.tower;
            int e = bench.make(letter.substring(4));
            int slope = x.derive(bench.t);
            if (letter.startsWith("log")) {
                due(letter + ": t'", x.same(slope, x.logarithmic(e)), true);
                due(letter + ": t' e", x.same(x.times(slope, e), x.derive(e)), true);
                due(letter + ": low(t')", x.low(slope), true);
            } else {
                due(letter + ": t'", x.same(slope, x.times(x.derive(e), bench.t)), true);
                due(letter + ": t' through t", x.same(x.logarithmic(bench.t), x.derive(e)), true);
            }
            element(x, letter + ": the derivation of x", x.derive(bench.x), "1", "1");
            element(x, letter + ": that of a number", x.derive(n(x, 12345)), "0", "1");
        }
    }

    // ---- normal and special

    /** "nothing but polynomials without t divides both p and its derivation (times what is below in that)". */
    private static boolean isNormal(Tower x, int p) {
        return x.low(x.common(p, x.derive(p)));
    }

    /** "p divides its derivation so". */
    private static boolean isSpecial(Tower x, int p) {
        return x.low(x.part(x.over(x.derive(p), p), 1));
    }

    private static void eachFactor(String letter, String factor) {
        Bench bench = new Bench(letter);
        Tower x = bench.tower;
        int p = bench.make(factor);
        int under = x.over(x.add(bench.x, n(x, 9)), p);
        boolean special = isSpecial(x, p);
        String what = letter + ": " + factor;
        due(what + " is special", special, letter.startsWith("exp") && factor.equals("1t1"));
        due(what + " is normal", isNormal(x, p), !special);
        due(what + ", each once", x.same(x.part(under, 2), p), true);
        due(what + ", normal part", x.same(x.part(under, 3), special ? x.over(p, p) : p), true);
        due(what + ", special part", x.same(x.part(under, 4), special ? p : x.over(p, p)), true);
    }

    /** Two factors, one of them twice, and one without t: below in one element. */
    private static void twoFactors(String letter, String first, String second) {
        Bench bench = new Bench(letter);
        Tower x = bench.tower;
        int p = bench.make(first);
        int q = bench.make(second);
        int one = x.over(p, p);
        int below = x.times(x.times(p, p), x.times(q, bench.make("7x1 + 7")));
        int under = x.over(n(x, 5), below);
        int square = x.part(under, 2);
        int normal = x.part(under, 3);
        int special = x.part(under, 4);
        String what = letter + ": " + first + " twice and " + second + ", ";
        due(what + "each once", x.same(square, first.equals(second) ? p : x.times(p, q)), true);
        due(what + "the parts together", x.same(x.times(normal, special), square), true);
        due(what + "normal part", isNormal(x, normal), true);
        due(what + "special part", isSpecial(x, special), true);
        boolean t = letter.startsWith("exp") && (first.equals("1t1") || second.equals("1t1"));
        due(what + "special part is t or 1", x.same(special, t ? bench.t : one), true);
        due(what + "parts are monic", head(x, square, 0) * head(x, normal, 0) * head(x, special, 0), 1);
    }

    private static void normalAndSpecial() {
        for (String letter : MANY_LETTERS) {
            for (String first : FACTORS) {
                eachFactor(letter, first);
                for (String second : FACTORS) {
                    twoFactors(letter, first, second);
                }
            }
        }
    }

    /** As README.md has it. */
    private static void example() {
        Tower f = new Tower();
        int x = f.base();
        int t = f.letter(1, x);
        int q = f.over(x, t);
        element(f, "x / t", q, "1x1", "1t1");
        int d = f.derive(q);
        element(f, "its derivation", d, "1t1 + -1", "1t2");
        due("the number at t above", f.at(d, 1, 0, 0), 1);
        element(f, "the factors below, each once", f.part(d, 2), "1t1", "1");
    }

    public static void main(String[] args) {
        lowestTerms();
        heads();
        noLetterYet();
        slopeRules();
        slopesOfLetters();
        normalAndSpecial();
        example();
        finish("TermsTests");
    }
}
