/**
 * A tower of one letter t over the rational functions in x, with numbers modulo 32003:
 * elements as fractions in lowest terms, kept under handles.
 */
public final class TowerFields {
    private static final int PRIME = 32003;
    private static final int MOST_ELEMENTS = 120;
    private static final int MOST_POWER = 6;
    private static final int SIDE = MOST_POWER + 1;
    private static final int HALF = SIDE * SIDE;

    private static final int ABOVE = 0;
    private static final int BELOW = 1;

    private static final int LOGARITHM = 1;
    private static final int EXPONENTIAL = 2;

    private static final int SQUARE_FREE = 2;
    private static final int NORMAL = 3;
    private static final int SPECIAL = 4;

    private static final int MINUS_ONE = PRIME - 1;

    /** Powers of t go up to 12 before a fraction is brought to lowest terms. */
    private static final int ROWS = 2 * MOST_POWER + 1;

    /** Powers of x go up to 24 in a derivation, and up to 49 in what a divisor is pieced together from. */
    private static final int ROOM = 52;

    /** The numbers of all elements: by handle, above or below, power of t, power of x. */
    private final int[] numbers = new int[MOST_ELEMENTS * 2 * HALF];
    private int made = 0;

    /** 0 until t is set. */
    private int letterKind = 0;

    /** The derivation of t (of the logarithm), or that through t (of the exponential), as a fraction. */
    private final Line slopeAbove = new Line();
    private final Line slopeBelow = new Line();

    private final Poly firstAbove = new Poly();
    private final Poly firstBelow = new Poly();
    private final Poly secondAbove = new Poly();
    private final Poly secondBelow = new Poly();
    private final Poly slopeFirst = new Poly();
    private final Poly slopeSecond = new Poly();
    private final Poly rawAbove = new Poly();
    private final Poly rawBelow = new Poly();
    private final Poly one = new Poly();
    private final Divisor divisor = new Divisor();

    public TowerFields() {
        one.row(0).put(0, 1);
        slopeBelow.put(0, 1);
    }

    public int number(long above, long below) throws IllegalStateException, ArithmeticException {
        requireRoom();
        int divisorNumber = residue(below);
        if (divisorNumber == 0) {
            throw new ArithmeticException("below is 0 modulo 32003");
        }
        return keepSingle(0, 0, residue(above) * inverse(divisorNumber) % PRIME);
    }

    public int base() throws IllegalStateException {
        requireRoom();
        return keepSingle(0, 1, 1);
    }

    public int letter(int kind, int e)
            throws IndexOutOfBoundsException, IllegalStateException, IllegalArgumentException {
        requireElement(e);
        requireRoom();
        if (letterKind != 0) {
            throw new IllegalArgumentException("t is set");
        }
        if (kind != LOGARITHM && kind != EXPONENTIAL) {
            throw new IllegalArgumentException("no such kind of letter");
        }
        if (hasNoSlope(e)) {
            throw new IllegalArgumentException("the derivation of the element is 0");
        }
        setSlope(kind);
        letterKind = kind;
        return keepSingle(1, 0, 1);
    }

    public int top() throws IllegalStateException, IllegalArgumentException {
        requireRoom();
        if (letterKind == 0) {
            throw new IllegalArgumentException("t isn't set");
        }
        return keepSingle(1, 0, 1);
    }

    public int add(int a, int b) throws IndexOutOfBoundsException, IllegalStateException {
        takeTwo(a, b);
        sumUp(1);
        return keepLowest();
    }

    public int less(int a, int b) throws IndexOutOfBoundsException, IllegalStateException {
        takeTwo(a, b);
        sumUp(MINUS_ONE);
        return keepLowest();
    }

    public int times(int a, int b) throws IndexOutOfBoundsException, IllegalStateException {
        takeTwo(a, b);
        rawAbove.clear();
        rawAbove.plusProduct(firstAbove, secondAbove, 1);
        rawBelow.clear();
        rawBelow.plusProduct(firstBelow, secondBelow, 1);
        return keepLowest();
    }

    public int over(int a, int b) throws IndexOutOfBoundsException, IllegalStateException {
        takeTwo(a, b);
        if (secondAbove.isZero()) {
            return -1;
        }
        rawAbove.clear();
        rawAbove.plusProduct(firstAbove, secondBelow, 1);
        rawBelow.clear();
        rawBelow.plusProduct(firstBelow, secondAbove, 1);
        return keepLowest();
    }

    public int derive(int a) throws IndexOutOfBoundsException, IllegalStateException {
        requireElement(a);
        requireRoom();
        slopeOfFraction(a);
        slopeOverProduct(firstBelow, firstBelow);
        return keepLowest();
    }

    public int logarithmic(int a) throws IndexOutOfBoundsException, IllegalStateException {
        requireElement(a);
        requireRoom();
        slopeOfFraction(a);
        if (firstAbove.isZero()) {
            return -1;
        }
        slopeOverProduct(firstAbove, firstBelow);
        return keepLowest();
    }

    public int part(int a, int kind)
            throws IndexOutOfBoundsException, IllegalStateException, IllegalArgumentException {
        requireElement(a);
        requireRoom();
        if (kind < ABOVE || kind > SPECIAL) {
            throw new IllegalArgumentException("no such kind of part");
        }
        load(a, kind == ABOVE ? ABOVE : BELOW, firstAbove);
        if (kind >= SQUARE_FREE) {
            makeSquareFree(firstAbove);
        }
        if (kind >= NORMAL) {
            splitSquareFree(firstAbove, kind);
        }
        return keep(firstAbove, one);
    }

    public int common(int a, int b) throws IndexOutOfBoundsException, IllegalStateException {
        takeTwo(a, b);
        divisor.find(firstAbove, secondAbove);
        return keep(divisor.found, one);
    }

    public boolean same(int a, int b) throws IndexOutOfBoundsException {
        requireElement(a);
        requireElement(b);
        for (int i = 0; i < 2 * HALF; i++) {
            if (stored(a * 2 * HALF + i) != stored(b * 2 * HALF + i)) {
                return false;
            }
        }
        return true;
    }

    public boolean constant(int a) throws IndexOutOfBoundsException {
        requireElement(a);
        return hasNoSlope(a);
    }

    public boolean low(int a) throws IndexOutOfBoundsException {
        requireElement(a);
        for (int powerT = 1; powerT < SIDE; powerT++) {
            for (int powerX = 0; powerX < SIDE; powerX++) {
                if (stored(place(a, ABOVE, powerT, powerX)) != 0 || stored(place(a, BELOW, powerT, powerX)) != 0) {
                    return false;
                }
            }
        }
        return true;
    }

    public int at(int a, int powerT, int powerX, int part)
            throws IndexOutOfBoundsException, IllegalArgumentException {
        requireElement(a);
        if (powerT < 0 || powerT > MOST_POWER || powerX < 0 || powerX > MOST_POWER) {
            throw new IllegalArgumentException("powers go from 0 to 6");
        }
        if (part != ABOVE && part != BELOW) {
            throw new IllegalArgumentException("a part is 0 or 1");
        }
        return stored(place(a, part, powerT, powerX));
    }

    public int count() {
        return made;
    }

    private void requireElement(int handle) {
        if (handle < 0 || handle >= made) {
            throw new IndexOutOfBoundsException("no such element");
        }
    }

    private void requireRoom() {
        if (made >= MOST_ELEMENTS) {
            throw new IllegalStateException("120 elements are there");
        }
    }

    private static int place(int handle, int half, int powerT, int powerX) {
        return ((handle * 2 + half) * SIDE + powerT) * SIDE + powerX;
    }

    private int stored(int place) {
        return place >= 0 && place < numbers.length ? numbers[place] : 0;
    }

    private void store(int place, int value) {
        if (place >= 0 && place < numbers.length) {
            numbers[place] = value;
        }
    }

    private void load(int handle, int half, Poly into) {
        into.clear();
        for (int powerT = 0; powerT < SIDE; powerT++) {
            for (int powerX = 0; powerX < SIDE; powerX++) {
                int value = stored(place(handle, half, powerT, powerX));
                if (value != 0) {
                    into.row(powerT).put(powerX, value);
                }
            }
        }
    }

    private void takeTwo(int a, int b) {
        requireElement(a);
        requireElement(b);
        requireRoom();
        load(a, ABOVE, firstAbove);
        load(a, BELOW, firstBelow);
        load(b, ABOVE, secondAbove);
        load(b, BELOW, secondBelow);
    }

    /** The first element taken and the second one times a sign. */
    private void sumUp(int sign) {
        rawAbove.clear();
        rawAbove.plusProduct(firstAbove, secondBelow, 1);
        rawAbove.plusProduct(secondAbove, firstBelow, sign);
        rawBelow.clear();
        rawBelow.plusProduct(firstBelow, secondBelow, 1);
    }

    /** The element of one term, above 1. */
    private int keepSingle(int powerT, int powerX, int value) {
        rawAbove.clear();
        rawAbove.row(powerT).put(powerX, value);
        return keep(rawAbove, one);
    }

    /** Brings above through below, which isn't 0, to lowest terms first. */
    private int keepLowest() {
        divisor.find(rawAbove, rawBelow);
        Poly lowestAbove = divisor.firstRest;
        Poly lowestBelow = divisor.secondRest;
        int back = inverse(lowestBelow.head());
        lowestAbove.scale(back);
        lowestBelow.scale(back);
        if (isTooGreat(lowestAbove) || isTooGreat(lowestBelow)) {
            throw new IllegalStateException("the element is too great");
        }
        return keep(lowestAbove, lowestBelow);
    }

    private static boolean isTooGreat(Poly poly) {
        return poly.powerT() > MOST_POWER || poly.powerX() > MOST_POWER;
    }

    private int keep(Poly elementAbove, Poly elementBelow) {
        for (int powerT = 0; powerT < SIDE; powerT++) {
            for (int powerX = 0; powerX < SIDE; powerX++) {
                store(place(made, ABOVE, powerT, powerX), elementAbove.row(powerT).get(powerX));
                store(place(made, BELOW, powerT, powerX), elementBelow.row(powerT).get(powerX));
            }
        }
        made++;
        return made - 1;
    }

    private boolean hasNoSlope(int handle) {
        slopeOfFraction(handle);
        return rawAbove.isZero();
    }

    /**
     * Puts into rawAbove what stands above in the derivation of an element, before lowest terms;
     * under it belong the square of what is below in the element, and slopeBelow.
     */
    private void slopeOfFraction(int handle) {
        load(handle, ABOVE, firstAbove);
        load(handle, BELOW, firstBelow);
        slopeOfPoly(firstAbove, slopeFirst);
        slopeOfPoly(firstBelow, slopeSecond);
        rawAbove.clear();
        rawAbove.plusProduct(slopeFirst, firstBelow, 1);
        rawAbove.plusProduct(slopeSecond, firstAbove, MINUS_ONE);
    }

    /** The derivation of a polynomial, times slopeBelow, so that it is a polynomial again. */
    private void slopeOfPoly(Poly poly, Poly into) {
        into.clear();
        int lowering = letterKind == LOGARITHM ? 1 : 0;
        for (int i = 0; i < SIDE; i++) {
            Line row = poly.row(i);
            into.row(i).plusSlopeProduct(row, slopeBelow);
            into.row(i - lowering).plusProduct(row, slopeAbove, i);
        }
    }

    private void slopeOverProduct(Poly a, Poly b) {
        slopeFirst.clear();
        slopeFirst.plusProduct(a, b, 1);
        rawBelow.clear();
        for (int i = 0; i < ROWS; i++) {
            rawBelow.row(i).plusProduct(slopeFirst.row(i), slopeBelow, 1);
        }
    }

    /** The derivation of t, from the element that hasNoSlope has looked at: x alone is in it. */
    private void setSlope(int kind) {
        rawBelow.clear();
        rawBelow.plusProduct(kind == LOGARITHM ? firstAbove : firstBelow, firstBelow, 1);
        divisor.find(rawAbove, rawBelow);
        slopeAbove.copyOf(divisor.firstRest.row(0));
        slopeBelow.copyOf(divisor.secondRest.row(0));
    }

    /**
     * The factors in which t is, each once; those without t stand whole in the divisor, and so fall out.
     * What is left is monic, as the polynomial and the divisor are.
     */
    private void makeSquareFree(Poly poly) {
        slopeFirst.clear();
        for (int i = 1; i < SIDE; i++) {
            slopeFirst.row(i - 1).plusShifted(poly.row(i), i, 0);
        }
        divisor.find(poly, slopeFirst);
        poly.copyOf(divisor.firstRest);
    }

    /** Of a polynomial without squares, the divisor shared with its derivation is the special part. */
    private void splitSquareFree(Poly poly, int kind) {
        slopeOfPoly(poly, slopeFirst);
        divisor.find(poly, slopeFirst);
        poly.copyOf(kind == SPECIAL ? divisor.found : divisor.firstRest);
    }

    private static int residue(long value) {
        long rest = value % PRIME;
        return (int) (rest < 0 ? rest + PRIME : rest);
    }

    /** By Fermat's theorem; 0 for 0. */
    private static int inverse(int value) {
        int power = value;
        int result = 1;
        for (int e = PRIME - 2; e > 0; e >>= 1) {
            if ((e & 1) == 1) {
                result = result * power % PRIME;
            }
            power = power * power % PRIME;
        }
        return result;
    }

    /** A polynomial in one letter. The numbers behind its degree are always 0. */
    private static final class Line {
        private int[] numbers = new int[ROOM];
        private int degree = -1;

        int get(int i) {
            return i >= 0 && i < numbers.length ? numbers[i] : 0;
        }

        void put(int i, int value) {
            if (i < 0 || i >= numbers.length) {
                return;
            }
            numbers[i] = value;
            int last = i > degree ? i : degree;
            while (last >= 0 && last < numbers.length && numbers[last] == 0) {
                last--;
            }
            degree = last;
        }

        void clear() {
            for (int i = 0; i <= degree && i < numbers.length; i++) {
                numbers[i] = 0;
            }
            degree = -1;
        }

        void copyOf(Line other) {
            int last = degree > other.degree ? degree : other.degree;
            for (int i = 0; i <= last && i < numbers.length && i < other.numbers.length; i++) {
                numbers[i] = other.numbers[i];
            }
            degree = other.degree;
        }

        int valueAt(int point) {
            int value = 0;
            for (int i = degree; i >= 0; i--) {
                value = (value * point + get(i)) % PRIME;
            }
            return value;
        }

        void scale(int factor) {
            for (int i = degree; i >= 0; i--) {
                put(i, get(i) * factor % PRIME);
            }
        }

        /** Adds the other line times a factor, all its powers raised by shift. */
        void plusShifted(Line other, int factor, int shift) {
            int last = degree;
            for (int i = 0; i <= other.degree && i < other.numbers.length; i++) {
                int raised = i + shift;
                if (raised >= 0 && raised < numbers.length) {
                    numbers[raised] = (numbers[raised] + other.numbers[i] * factor) % PRIME;
                    last = raised > last ? raised : last;
                }
            }
            while (last >= 0 && last < numbers.length && numbers[last] == 0) {
                last--;
            }
            degree = last;
        }

        void plusProduct(Line a, Line b, int factor) {
            for (int i = 0; i <= a.degree; i++) {
                int single = a.get(i) * factor % PRIME;
                if (single != 0) {
                    plusShifted(b, single, i);
                }
            }
        }

        /** Adds the derivation of a by its own letter, times b. */
        void plusSlopeProduct(Line a, Line b) {
            for (int i = 1; i <= a.degree; i++) {
                int single = a.get(i) * i % PRIME;
                if (single != 0) {
                    plusShifted(b, single, i - 1);
                }
            }
        }

        /** Multiplies by the letter less a point. */
        void timesRoot(int point) {
            for (int i = degree + 1; i >= 0; i--) {
                put(i, (get(i - 1) + (PRIME - point) * get(i)) % PRIME);
            }
        }

        /** Leaves here what remains. */
        void divideBy(Line other, Line quotient) {
            quotient.clear();
            if (other.degree < 0) {
                return;
            }
            int back = inverse(other.get(other.degree));
            for (int shift = degree - other.degree; shift >= 0; shift--) {
                int factor = get(shift + other.degree) * back % PRIME;
                if (factor != 0) {
                    quotient.put(shift, factor);
                    plusShifted(other, PRIME - factor, shift);
                }
            }
        }

        /** Leaves here the monic greatest common divisor; the other line and the spare one are used up. */
        void meet(Line other, Line spare) {
            for (int round = 0; round < 2 * ROOM && other.degree >= 0; round++) {
                divideBy(other, spare);
                exchange(other);
            }
            scale(inverse(get(degree)));
        }

        private void exchange(Line other) {
            int[] otherNumbers = other.numbers;
            int otherDegree = other.degree;
            other.numbers = numbers;
            other.degree = degree;
            numbers = otherNumbers;
            degree = otherDegree;
        }
    }

    /** A polynomial in t and x: a line in x for each power of t. */
    private static final class Poly {
        private final Line[] rows = new Line[ROWS];

        Poly() {
            for (int i = 0; i < ROWS; i++) {
                rows[i] = new Line();
            }
        }

        Line row(int powerT) {
            return rows[powerT < 0 ? 0 : powerT < ROWS ? powerT : ROWS - 1];
        }

        void clear() {
            for (int i = 0; i < ROWS; i++) {
                rows[i].clear();
            }
        }

        void copyOf(Poly other) {
            for (int i = 0; i < ROWS; i++) {
                rows[i].copyOf(other.rows[i]);
            }
        }

        boolean isZero() {
            return powerT() < 0;
        }

        /** The highest power of t; -1 of 0. */
        int powerT() {
            int i = ROWS - 1;
            while (i >= 0 && rows[i].degree < 0) {
                i--;
            }
            return i;
        }

        /** The highest power of x; -1 of 0. */
        int powerX() {
            int highest = -1;
            for (int i = 0; i < ROWS; i++) {
                highest = Math.max(highest, rows[i].degree);
            }
            return highest;
        }

        int head() {
            Line highest = row(powerT());
            return highest.get(highest.degree);
        }

        void scale(int factor) {
            for (int i = 0; i < ROWS; i++) {
                rows[i].scale(factor);
            }
        }

        void plusProduct(Poly a, Poly b, int factor) {
            int lastA = a.powerT();
            int lastB = b.powerT();
            for (int i = 0; i <= lastA && i < ROWS; i++) {
                for (int j = 0; j <= lastB && i + j < ROWS; j++) {
                    rows[i + j].plusProduct(a.rows[i], b.rows[j], factor);
                }
            }
        }
    }

    /**
     * Finds the greatest common divisor of two polynomials and divides both by it. It takes numbers for x,
     * finds the divisors in t that are left, and pieces the whole one together from these: so no line of x
     * grows beyond what it was, as it would if both were divided in turn.
     */
    private static final class Divisor {
        /** The monic divisor, and the two polynomials through it. */
        final Poly found = new Poly();
        final Poly firstRest = new Poly();
        final Poly secondRest = new Poly();

        /** What has been pieced together, a multiple of the divisor by a line of x. */
        private final Poly pieced = new Poly();
        private final Poly remains = new Poly();

        private final Line content = new Line();
        private final Line firstContent = new Line();
        private final Line secondContent = new Line();
        private final Line piecedContent = new Line();
        private final Line lead = new Line();
        private final Line nodes = new Line();
        private final Line image = new Line();
        private final Line spare = new Line();
        private final Line quotient = new Line();
        private final Line otherLine = new Line();

        void find(Poly a, Poly b) {
            if (a.isZero() || b.isZero()) {
                found.copyOf(a.isZero() ? b : a);
                found.scale(inverse(found.head()));
                divideBoth(a, b);
                return;
            }
            findContents(a, b);
            int reach = Math.min(a.powerX() - firstContent.degree, b.powerX() - secondContent.degree);
            int needed = reach + lead.degree + 1;
            int degree = Math.min(a.powerT(), b.powerT());
            int points = 0;
            for (int point = 0; point < PRIME && degree > 0; point++) {
                if (!findImage(a, b, point) || image.degree > degree) {
                    continue;
                }
                if (image.degree == 0) {
                    break;
                }
                if (image.degree < degree || points == 0) {
                    degree = image.degree;
                    points = 0;
                    pieced.clear();
                    nodes.clear();
                    nodes.put(0, 1);
                }
                boolean fitted = takeIn(point);
                points++;
                if ((fitted || points >= needed) && tryPieced(a, b)) {
                    return;
                }
                if (points >= needed) {
                    // With so many true images the trial would have succeeded: the divisor's degree is lower.
                    degree--;
                    points = 0;
                }
            }
            // Nothing with t divides both.
            found.clear();
            found.row(0).copyOf(content);
            divideBoth(a, b);
        }

        /** The divisor without t, and the line that the head of the divisor with t divides. */
        private void findContents(Poly a, Poly b) {
            contentOf(a, firstContent);
            contentOf(b, secondContent);
            leadOf(a, firstContent, lead);
            leadOf(b, secondContent, otherLine);
            lead.meet(otherLine, spare);
            content.copyOf(firstContent);
            otherLine.copyOf(secondContent);
            content.meet(otherLine, spare);
        }

        private void contentOf(Poly poly, Line into) {
            into.clear();
            for (int i = ROWS - 1; i >= 0 && into.degree != 0; i--) {
                otherLine.copyOf(poly.row(i));
                into.meet(otherLine, spare);
            }
        }

        private void leadOf(Poly poly, Line polyContent, Line into) {
            image.copyOf(poly.row(poly.powerT()));
            image.divideBy(polyContent, into);
        }

        /** False if a head vanishes at the point: the image would tell nothing. */
        private boolean findImage(Poly a, Poly b, int point) {
            imageOf(a, point, image);
            imageOf(b, point, otherLine);
            if (image.degree < a.powerT() || otherLine.degree < b.powerT()) {
                return false;
            }
            image.meet(otherLine, spare);
            return true;
        }

        private static void imageOf(Poly poly, int point, Line into) {
            into.clear();
            for (int i = poly.powerT(); i >= 0; i--) {
                into.put(i, poly.row(i).valueAt(point));
            }
        }

        /** Makes what is pieced together fit the image at one point more; true if it did already. */
        private boolean takeIn(int point) {
            int scale = lead.valueAt(point);
            int back = inverse(nodes.valueAt(point));
            boolean fitted = true;
            for (int i = 0; i <= image.degree && i < ROWS; i++) {
                int wanted = image.get(i) * scale % PRIME;
                int missing = (wanted + PRIME - pieced.row(i).valueAt(point)) % PRIME;
                if (missing != 0) {
                    pieced.row(i).plusShifted(nodes, missing * back % PRIME, 0);
                    fitted = false;
                }
            }
            nodes.timesRoot(point);
            return fitted;
        }

        /** Whether what is pieced together, with its own content taken away, gives the divisor. */
        private boolean tryPieced(Poly a, Poly b) {
            contentOf(pieced, piecedContent);
            int reach = Math.min(a.powerX(), b.powerX());
            if (pieced.powerX() - piecedContent.degree + content.degree > reach) {
                return false;
            }
            found.clear();
            for (int i = pieced.powerT(); i >= 0; i--) {
                image.copyOf(pieced.row(i));
                image.divideBy(piecedContent, quotient);
                found.row(i).plusProduct(quotient, content, 1);
            }
            found.scale(inverse(found.head()));
            return divideBoth(a, b);
        }

        private boolean divideBoth(Poly a, Poly b) {
            return divide(a, firstRest) && divide(b, secondRest);
        }

        /** Divides by what was found; false if something remains. */
        private boolean divide(Poly poly, Poly into) {
            into.clear();
            remains.copyOf(poly);
            int foundT = found.powerT();
            int reach = poly.powerX() - found.powerX();
            if (foundT < 0) {
                return false;
            }
            for (int i = poly.powerT() - foundT; i >= 0; i--) {
                remains.row(i + foundT).divideBy(found.row(foundT), quotient);
                if (quotient.degree > reach) {
                    return false;
                }
                into.row(i).copyOf(quotient);
                for (int j = 0; j < foundT; j++) {
                    remains.row(i + j).plusProduct(quotient, found.row(j), MINUS_ONE);
                }
            }
            return remains.isZero();
        }
    }
}
