/**
 * The document's boundary cases, promise by promise: handles, the 120th element, what does not exist, numbers at the
 * ends of long, powers, t before and after it is set, and which exception stands first. BoundaryRows has the elements.
 */
public final class BoundaryTests extends Checks {
    private static final int MOST = 120;
    private static final int MIN = Integer.MIN_VALUE;
    private static final int MAX = Integer.MAX_VALUE;

    /** The multiples of 32003 that stand nearest to the ends of long. */
    private static final long GREATEST = 9223372036854748952L;
    private static final long LEAST = -9223372036854748952L;

    private interface Maker {
        int run(Tower x);
    }

    /** No letter (0) or a letter of a kind; x is 0, what was made last is another element. */
    private static Tower begun(int kind) {
        if (kind != 0) {
            return tower(kind);
        }
        Tower x = new Tower();
        x.base();
        n(x, 1);
        x.times(0, 0);
        return x;
    }

    /** x's without a letter. */
    private static Tower bases(int wanted) {
        Tower x = new Tower();
        while (x.count() < wanted) {
            x.base();
        }
        return x;
    }

    /** Handles that no element has, the one behind the last first; with some whose places would wrap around. */
    private static int[] outside(Tower x) {
        return new int[] {x.count(), -1, x.count() + 1, -2, MOST, MOST + 1, MIN, MAX, 1 << 16, 1 << 30, MAX / 98 + 1,
            MAX / 49 + 1, -(1 << 30)};
    }

    private static void top120(Tower x, String what, Call call) {
        refused(x, what + " behind the 120th", STATE, call);
        due(what + ", then count", x.count(), MOST);
    }

    /** The call makes the 120th element, and is refused where it wants a 121st. */
    private static void lastOne(String name, Tower x, Maker call) {
        due(name + ": count before", x.count(), MOST - 1);
        String before = picture(x).split(":", 2)[1];
        due(name + " makes the 120th", call.run(x), MOST - 1);
        due(name + ": count behind it", x.count(), MOST);
        due(name + ": what stood before", picture(x).split(":", 2)[1].startsWith(before), true);
        top120(x, name, () -> call.run(x));
        top120(x, name + " again", () -> call.run(x));
    }

    private static void taken(String what, int got, int handle) {
        due(what + " is taken", got, handle);
    }

    /** "IndexOutOfBoundsException: no such element", of a call with two; it stands first. */
    private static void handlesOfPair(String name, Pair call) {
        for (int kind = 0; kind <= 2; kind++) {
            Tower x = begun(kind);
            for (int bad : outside(x)) {
                refused(x, name + "(" + bad + ", 0)", INDEX, () -> call.run(x, bad, 0));
                refused(x, name + "(0, " + bad + ")", INDEX, () -> call.run(x, 0, bad));
                refused(x, name + "(" + bad + ", " + bad + ")", INDEX, () -> call.run(x, bad, bad));
            }
            taken(name + "(0, last)", call.run(x, 0, x.count() - 1), x.count() - 1);
            taken(name + "(last, 0)", call.run(x, x.count() - 1, 0), x.count() - 1);
            taken(name + "(0, 0)", call.run(x, 0, 0), x.count() - 1);
        }
        Tower none = new Tower();
        refused(none, name + "(0, 0) of a new object", INDEX, () -> call.run(none, 0, 0));
        refused(none, name + "(-1, -1) of a new object", INDEX, () -> call.run(none, -1, -1));
    }

    private static void roomOfPair(String name, Pair call) {
        for (int kind = 1; kind <= 2; kind++) {
            lastOne(name, filled(kind, MOST - 1), x -> call.run(x, 0, x.count() - 1));
            Tower y = full(kind);
            top120(y, name + "(0, 119)", () -> call.run(y, 0, 119));
            top120(y, name + "(119, 0)", () -> call.run(y, 119, 0));
            top120(y, name + " of t and 0", () -> call.run(y, 3, 4));
            top120(y, name + " of 0 and 0", () -> call.run(y, 4, 4));
            for (int bad : outside(y)) {
                refused(y, name + "(" + bad + ", 0) at 120", INDEX, () -> call.run(y, bad, 0));
                refused(y, name + "(119, " + bad + ") at 120", INDEX, () -> call.run(y, 119, bad));
            }
        }
        Tower z = bases(MOST);
        top120(z, name + " without t", () -> call.run(z, 0, 119));
    }

    private static void pair(String name, Pair call) {
        handlesOfPair(name, call);
        roomOfPair(name, call);
    }

    /** The same of a call with one. */
    private static void handlesOfSingle(String name, Single call) {
        for (int kind = 0; kind <= 2; kind++) {
            Tower x = begun(kind);
            for (int bad : outside(x)) {
                refused(x, name + "(" + bad + ")", INDEX, () -> call.run(x, bad));
            }
            taken(name + "(last)", call.run(x, x.count() - 1), x.count() - 1);
            taken(name + "(0)", call.run(x, 0), x.count() - 1);
        }
        Tower none = new Tower();
        refused(none, name + "(0) of a new object", INDEX, () -> call.run(none, 0));
        refused(none, name + "(-1) of a new object", INDEX, () -> call.run(none, -1));
    }

    private static void roomOfSingle(String name, Single call) {
        for (int kind = 1; kind <= 2; kind++) {
            lastOne(name, filled(kind, MOST - 1), x -> call.run(x, x.count() - 1));
            Tower y = full(kind);
            for (int h : new int[] {0, 1, 3, 4, 119}) {
                top120(y, name + "(" + h + ")", () -> call.run(y, h));
            }
            for (int bad : outside(y)) {
                refused(y, name + "(" + bad + ") at 120", INDEX, () -> call.run(y, bad));
            }
        }
        Tower z = bases(MOST);
        top120(z, name + " without t", () -> call.run(z, 119));
    }

    private static void single(String name, Single call) {
        handlesOfSingle(name, call);
        roomOfSingle(name, call);
    }

    /** A call that only looks: it answers at 120 elements too, of the first and of the last. */
    private static void looks(String name, Single call, int ofX, int ofLast) {
        for (int kind = 0; kind <= 2; kind++) {
            Tower x = begun(kind);
            n(x, 5);
            for (int i = 0; i < 2; i++) {
                for (int bad : outside(x)) {
                    refused(x, name + "(" + bad + ")", INDEX, () -> call.run(x, bad));
                }
                String before = picture(x);
                due(name + "(0)", call.run(x, 0), ofX);
                due(name + "(last)", call.run(x, x.count() - 1), ofLast);
                due(name + ", then the state", picture(x), before);
                while (x.count() < MOST) {
                    n(x, 5);
                }
            }
        }
        Tower none = new Tower();
        refused(none, name + "(0) of a new object", INDEX, () -> call.run(none, 0));
        refused(none, name + "(-1) of a new object", INDEX, () -> call.run(none, -1));
    }

    /** "No elements, no letter t", of each new object, whatever was done with others. */
    private static void promise1() {
        Tower before = new Tower();
        Tower other = full(1);
        String otherBefore = picture(other);
        for (Tower x : new Tower[] {before, new Tower()}) {
            due("count", x.count(), 0);
            for (int h : new int[] {0, -1, 1, 119, 120}) {
                refused(x, "low(" + h + ")", INDEX, () -> x.low(h) ? 1 : 0);
                refused(x, "at(" + h + ", ..)", INDEX, () -> x.at(h, 0, 0, 0));
            }
            refused(x, "top", ARGUMENT, () -> x.top());
            due("the first handle", x.base(), 0);
            refused(x, "top still", ARGUMENT, () -> x.top());
            due("a letter can be set", x.letter(2, 0), 1);
            element(x, "its own derivation", x.derive(1), "1t1", "1");
        }
        due("the other stays", picture(other), otherBefore);
    }

    /** "above through below modulo 32003", at the ends of long and at the ends of the numbers. */
    private static void ends() {
        long max = Long.MAX_VALUE;
        long min = Long.MIN_VALUE;
        long[][] rows = {{max, 1, 26855}, {min, 1, 5147}, {1, max, 30654}, {1, min, 24666}, {max, min, 7336},
            {min, max, 1348}, {max, max, 1}, {min, min, 1}, {max, -1, 5148}, {min, -1, 26856}, {0, max, 0}, {0, min, 0},
            {0, 1, 0}, {0, -1, 0}, {1, 1, 1}, {-1, 1, 32002}, {1, -1, 32002}, {-1, -1, 1}, {32002, 1, 32002},
            {32003, 1, 0}, {32004, 1, 1}, {-32002, 1, 1}, {-32003, 1, 0}, {-32004, 1, 32002}, {1, 32002, 32002},
            {1, 32004, 1}, {1, -32002, 1}, {1, -32004, 32002}, {1, 2, 16002}, {32003, 2, 0}, {-32003, -2, 0},
            {GREATEST, 1, 0}, {LEAST, 1, 0}, {GREATEST, -7, 0}, {GREATEST + 1, 1, 1}, {GREATEST - 1, 1, 32002},
            {LEAST + 1, 1, 1}, {LEAST - 1, 1, 32002}, {1, GREATEST + 1, 1}, {1, GREATEST - 1, 32002},
            {1, LEAST + 1, 1}, {1, LEAST - 1, 32002}, {GREATEST, GREATEST - 1, 0}, {1L << 32, 1, 4681},
            {-(1L << 32), 1, 27322}, {4294967297L, 4294967297L, 1}, {32002, 32002, 1}};
        Tower x = new Tower();
        for (int i = 0; i < rows.length; i++) {
            String what = "number(" + rows[i][0] + ", " + rows[i][1] + ")";
            due(what, x.number(rows[i][0], rows[i][1]), i);
            due(what + " above", (long) x.at(i, 0, 0, 0), rows[i][2]);
            due(what + " below", text(x, i, 1), "1");
            due(what + " is low", x.low(i), true);
            due(what + " is constant", x.constant(i), true);
        }
    }

    private static void promise2() {
        ends();
        Tower x = tower(1);
        for (long below : new long[] {0, P, -P, 2L * P, -2L * P, GREATEST, LEAST, (long) P << 32, -((long) P << 32)}) {
            for (long above : new long[] {0, 1, -1, P, Long.MAX_VALUE, Long.MIN_VALUE}) {
                refused(x, "number(" + above + ", " + below + ")", ARITHMETIC, () -> x.number(above, below));
            }
        }
        lastOne("number", filled(1, MOST - 1), y -> y.number(3, 2));
        lastOne("number without t", bases(MOST - 1), y -> y.number(0, -1));
        Tower z = full(2);
        top120(z, "number(1, 0)", () -> z.number(1, 0));
        top120(z, "number(0, 32003)", () -> z.number(0, P));
        top120(z, "number(least, greatest)", () -> z.number(LEAST, GREATEST));
    }

    private static void promise3() {
        for (int kind = 0; kind <= 2; kind++) {
            Tower x = begun(kind);
            element(x, "base", x.base(), "1x1", "1");
            due("base is x", x.same(0, x.count() - 1), true);
        }
        lastOne("base with a logarithm", filled(1, MOST - 1), x -> x.base());
        lastOne("base with an exponential", filled(2, MOST - 1), x -> x.base());
        lastOne("base without t", bases(MOST - 1), x -> x.base());
    }

    /** "there is no such kind, or the element can't be taken"; then t isn't set, and can be. */
    private static void lettersNotTaken(int kind) {
        Tower x = new Tower();
        x.base();
        n(x, 0);
        n(x, 1);
        n(x, -1);
        x.over(0, 0);
        for (int e = 1; e < 5; e++) {
            int number = e;
            refused(x, "letter of the number at " + e, ARGUMENT, () -> x.letter(kind, number));
        }
        for (int bad : new int[] {0, 3, -1, -2, 4, MIN, MAX, 1 << 16, (1 << 16) + 1}) {
            refused(x, "letter(" + bad + ", 0)", ARGUMENT, () -> x.letter(bad, 0));
            refused(x, "letter(" + bad + ", a number)", ARGUMENT, () -> x.letter(bad, 1));
            refused(x, "letter(" + bad + ", 5)", INDEX, () -> x.letter(bad, 5));
        }
        for (int bad : outside(x)) {
            refused(x, "letter(" + kind + ", " + bad + ")", INDEX, () -> x.letter(kind, bad));
        }
        refused(x, "top then", ARGUMENT, () -> x.top());
        element(x, "x's derivation then", x.derive(0), "1", "1");
        element(x, "letter then", x.letter(kind, 0), "1t1", "1");
    }

    /** "t is a letter once it is set, for good". */
    private static void lettersTwice(int kind) {
        Tower x = tower(kind);
        n(x, 7);
        for (int again : new int[] {1, 2, 0, 3, -1, MIN, MAX}) {
            for (int e = 0; e < x.count(); e++) {
                int h = e;
                refused(x, "letter(" + again + ", " + e + ") again", ARGUMENT, () -> x.letter(again, h));
            }
            for (int bad : outside(x)) {
                refused(x, "letter(" + again + ", " + bad + ") again", INDEX, () -> x.letter(again, bad));
            }
        }
        element(x, "t's derivation stays", x.derive(3), kind == 1 ? "1" : "2x1t1", kind == 1 ? "1x1" : "1");
        element(x, "top stays", x.top(), "1t1", "1");
        Tower y = full(kind);
        top120(y, "letter again", () -> y.letter(kind, 0));
        top120(y, "letter of no kind again", () -> y.letter(0, 4));
        for (int bad : outside(y)) {
            refused(y, "letter(" + kind + ", " + bad + ") at 120", INDEX, () -> y.letter(kind, bad));
        }
    }

    private static void roomOfLetters(int kind) {
        lastOne("letter", bases(MOST - 1), x -> x.letter(kind, 118));
        Tower x = bases(MOST - 1);
        n(x, 1);
        top120(x, "letter", () -> x.letter(kind, 0));
        top120(x, "letter of a number", () -> x.letter(kind, 119));
        top120(x, "letter of no kind", () -> x.letter(3, 0));
        top120(x, "letter of kind -1 and a number", () -> x.letter(-1, 119));
        refused(x, "letter of no kind and 120", INDEX, () -> x.letter(0, MOST));
        refused(x, "letter of 120", INDEX, () -> x.letter(kind, MOST));
        refused(x, "letter of -1", INDEX, () -> x.letter(kind, -1));
        Tower y = bases(1);
        element(y, "letter of the first, which is the last", y.letter(kind, 0), "1t1", "1");
        Tower z = new Tower();
        refused(z, "letter of a new object", INDEX, () -> z.letter(kind, 0));
        refused(z, "letter of no kind, of a new object", INDEX, () -> z.letter(0, 0));
    }

    private static void promise4() {
        for (int kind = 1; kind <= 2; kind++) {
            lettersNotTaken(kind);
            lettersTwice(kind);
            roomOfLetters(kind);
        }
    }

    private static void promise5() {
        for (int kind = 1; kind <= 2; kind++) {
            Tower x = begun(0);
            refused(x, "top before", ARGUMENT, () -> x.top());
            int k = kind;
            refused(x, "letter of a number", ARGUMENT, () -> x.letter(k, 1));
            refused(x, "top behind a refused letter", ARGUMENT, () -> x.top());
            x.letter(kind, 0);
            element(x, "top", x.top(), "1t1", "1");
            element(x, "top once more", x.top(), "1t1", "1");
            due("they are t", x.same(3, 4) && x.same(3, 5), true);
            lastOne("top", filled(kind, MOST - 1), y -> y.top());
        }
        Tower z = bases(MOST - 1);
        refused(z, "top before at 119", ARGUMENT, () -> z.top());
        z.base();
        top120(z, "top before", () -> z.top());
        Tower none = new Tower();
        refused(none, "top of a new object", ARGUMENT, () -> none.top());
    }

    private static void promise6() {
        pair("add", (x, a, b) -> x.add(a, b));
    }

    private static void promise7() {
        pair("less", (x, a, b) -> x.less(a, b));
    }

    private static void promise8() {
        pair("times", (x, a, b) -> x.times(a, b));
        Tower x = filled(1, 110);
        int high = power(x, 0, 6);
        due("count before what is too great", x.count(), 117);
        for (int i = 0; i < 5; i++) {
            refused(x, "x^7", STATE, () -> x.times(high, 0));
        }
        due("the handle behind it", x.base(), 117);
        x.base();
        x.base();
        top120(x, "x^7", () -> x.times(high, 0));
        refused(x, "x^7 of no element", INDEX, () -> x.times(high, MOST));
    }

    /** "120 are there (also where a call answers -1)": -1 needs room, and takes none. */
    private static void nothingMade(String name, Maker call, Maker other) {
        for (int kind = 1; kind <= 2; kind++) {
            Tower x = filled(kind, MOST - 2);
            for (int stand = MOST - 2; stand < MOST; stand++) {
                String before = picture(x);
                due(name + " at " + stand, call.run(x), -1);
                due(name + " at " + stand + ", then the state", picture(x), before);
                due("the handle behind it", other.run(x), stand);
            }
            top120(x, name, () -> call.run(x));
        }
    }

    private static void promise9() {
        pair("over", (x, a, b) -> x.over(a, b));
        nothingMade("over(x, 0)", x -> x.over(0, 4), x -> x.over(0, 0));
        nothingMade("over(0, 0)", x -> x.over(4, 4), x -> x.over(4, 0));
        nothingMade("over(t, 0)", x -> x.over(3, 4), x -> x.over(3, 3));
        Tower y = filled(1, 5);
        for (int bad : outside(y)) {
            refused(y, "over(" + bad + ", the element that is 0)", INDEX, () -> y.over(bad, 4));
        }
    }

    private static void promise10() {
        single("derive", (x, a) -> x.derive(a));
    }

    private static void promise11() {
        single("logarithmic", (x, a) -> x.logarithmic(a));
        nothingMade("logarithmic(0)", x -> x.logarithmic(4), x -> x.logarithmic(0));
    }

    private static void promise12() {
        for (int kind = 0; kind <= 4; kind++) {
            int k = kind;
            single("part " + kind, (x, a) -> x.part(a, k));
        }
        for (int bad : new int[] {-1, 5, -2, 6, MIN, MAX, 1 << 16, 256}) {
            for (int letter = 0; letter <= 2; letter++) {
                Tower x = begun(letter);
                for (int h = 0; h < x.count(); h++) {
                    int a = h;
                    refused(x, "part(" + h + ", " + bad + ")", ARGUMENT, () -> x.part(a, bad));
                }
                for (int none : outside(x)) {
                    refused(x, "part(" + none + ", " + bad + ")", INDEX, () -> x.part(none, bad));
                }
            }
            Tower y = full(1);
            top120(y, "part(0, " + bad + ")", () -> y.part(0, bad));
            refused(y, "part(120, " + bad + ") at 120", INDEX, () -> y.part(MOST, bad));
            refused(y, "part(-1, " + bad + ") at 120", INDEX, () -> y.part(-1, bad));
        }
    }

    private static void promise13() {
        pair("common", (x, a, b) -> x.common(a, b));
    }

    private static void promise14() {
        looks("same with x:", (x, a) -> x.same(a, 0) ? 1 : 0, 1, 0);
        looks("same with x first:", (x, a) -> x.same(0, a) ? 1 : 0, 1, 0);
        looks("same with the last:", (x, a) -> x.same(x.count() - 1, a) ? 1 : 0, 0, 1);
        looks("same with itself:", (x, a) -> x.same(a, a) ? 1 : 0, 1, 1);
    }

    private static void promise15() {
        looks("constant", (x, a) -> x.constant(a) ? 1 : 0, 0, 1);
        Tower x = full(2);
        due("constant of t at 120", x.constant(3), false);
        due("constant of 0 at 120", x.constant(4), true);
        due("constant of x, the 120th", x.constant(119), false);
    }

    private static void promise16() {
        looks("low", (x, a) -> x.low(a) ? 1 : 0, 1, 1);
        for (int kind = 1; kind <= 2; kind++) {
            Tower x = filled(kind, MOST - 1);
            x.top();
            due("low of t at 120", x.low(3), false);
            due("low of t, the 120th", x.low(119), false);
            due("low of x, the 119th", x.low(118), true);
        }
    }

    /** "powers aren't 0 .. 6, or another part", the element being there or not. */
    private static void placesOutside(Tower x, int h) {
        for (int bad : new int[] {-1, 7, -2, 8, 49, MIN, MAX}) {
            for (int good : new int[] {0, 6}) {
                for (int part = 0; part <= 1; part++) {
                    int half = part;
                    refused(x, "at(" + h + ", " + bad + ", " + good + ")", ARGUMENT, () -> x.at(h, bad, good, half));
                    refused(x, "at(" + h + ", " + good + ", " + bad + ")", ARGUMENT, () -> x.at(h, good, bad, half));
                }
            }
            refused(x, "at with no powers and no part", ARGUMENT, () -> x.at(h, bad, bad, bad));
            refused(x, "at of the one behind the last", INDEX, () -> x.at(x.count(), bad, bad, bad));
            refused(x, "at of -1", INDEX, () -> x.at(-1, bad, 0, 0));
        }
        for (int bad : new int[] {-1, 2, -2, 3, MIN, MAX}) {
            refused(x, "at part " + bad, ARGUMENT, () -> x.at(h, 0, 0, bad));
            refused(x, "at part " + bad + " of 6 and 6", ARGUMENT, () -> x.at(h, 6, 6, bad));
            refused(x, "at part " + bad + " of no element", INDEX, () -> x.at(x.count(), 0, 0, bad));
            refused(x, "at part " + bad + " of -1", INDEX, () -> x.at(-1, 6, 6, bad));
        }
    }

    private static void promise17() {
        looks("at: x above", (x, a) -> x.at(a, 0, 1, 0), 1, 0);
        looks("at: 1 above", (x, a) -> x.at(a, 0, 0, 0), 0, 5);
        looks("at: 1 below", (x, a) -> x.at(a, 0, 0, 1), 1, 1);
        looks("at: x^6 t^6 below", (x, a) -> x.at(a, 6, 6, 1), 0, 0);
        for (String letter : new String[] {"log 1x1", "exp 1x1"}) {
            Bench bench = new Bench(letter);
            Tower x = bench.tower;
            int h = bench.make("2x6t6 + 3x6 + 5t6 + -1 / 1x6t6 + 7x6 + -2t6 + 11");
            due("above, x^6 t^6", x.at(h, 6, 6, 0), 2);
            due("above, x^6", x.at(h, 0, 6, 0), 3);
            due("above, t^6", x.at(h, 6, 0, 0), 5);
            due("above, 1", x.at(h, 0, 0, 0), P - 1);
            due("below, x^6 t^6", x.at(h, 6, 6, 1), 1);
            due("below, x^6", x.at(h, 0, 6, 1), 7);
            due("below, t^6", x.at(h, 6, 0, 1), P - 2);
            due("below, 1", x.at(h, 0, 0, 1), 11);
            due("above, x^5 t^5", x.at(h, 5, 5, 0), 0);
            int zero = n(x, 0);
            for (int i = 0; i < 49; i++) {
                due("0 above at " + i, x.at(zero, i / 7, i % 7, 0), 0);
                due("0 below at " + i, x.at(zero, i / 7, i % 7, 1), i == 0 ? 1 : 0);
            }
            placesOutside(x, h);
            placesOutside(x, 0);
            placesOutside(x, x.count() - 1);
        }
        placesOutside(full(1), 119);
        Tower none = new Tower();
        refused(none, "at of a new object", INDEX, () -> none.at(0, 7, 7, 2));
    }

    private static void promise18() {
        for (int kind = 0; kind <= 2; kind++) {
            Tower x = new Tower();
            due("count of a new object", x.count(), 0);
            for (int i = 0; i < MOST; i++) {
                due("handle " + i, i == 60 && kind > 0 ? x.letter(kind, 59) : x.base(), i);
                due("count behind it", x.count(), i + 1);
            }
            top120(x, "base", () -> x.base());
            top120(x, "letter", () -> x.letter(1, 0));
            refused(x, "at", ARGUMENT, () -> x.at(0, 7, 0, 0));
            refused(x, "low", INDEX, () -> x.low(MOST) ? 1 : 0);
            due("count in the end", x.count(), MOST);
        }
    }

    public static void main(String[] args) {
        runAll("BoundaryTests", new Runnable[] {BoundaryTests::promise1, BoundaryTests::promise2,
            BoundaryTests::promise3, BoundaryTests::promise4, BoundaryTests::promise5, BoundaryTests::promise6,
            BoundaryTests::promise7, BoundaryTests::promise8, BoundaryTests::promise9, BoundaryTests::promise10,
            BoundaryTests::promise11, BoundaryTests::promise12, BoundaryTests::promise13, BoundaryTests::promise14,
            BoundaryTests::promise15, BoundaryTests::promise16, BoundaryTests::promise17, BoundaryTests::promise18});
    }
}
