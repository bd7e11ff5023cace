/**
 * The document's boundary cases that a row of texts can tell: the letter, a call, its elements, and what is due:
 * an element, another answer, or the name of an exception.
 */
public final class BoundaryRows extends Checks {
    private static final String GREAT = STATE;
    private static final String HIGH = "1x6t6";

    /** The same with x and t changing places, where the derivation plays no part. */
    private static void turned(String call, String first, String second, String due) {
        row(LOG, call, first, second, due);
        String turnedDue = due.equals(GREAT) ? due : due.replace('x', 't');
        row(EXP, call, first.replace('x', 't'), second.replace('x', 't'), turnedDue);
    }

    /** "TOO GREAT is an element with a power above 6 (in lowest terms)", of a sum. */
    private static void greatSums() {
        turned("add", "1x6", "1x5", "1x6 + 1x5 / 1");
        turned("add", "1x5", "1 / 1x1", "1x6 + 1 / 1x1");
        turned("add", "1x6", "1 / 1x1", GREAT);
        turned("add", "1 / 1x1", "1x6", GREAT);
        turned("add", "1 / 1x5", "1 / 1x1 + 1", "1x5 + 1x1 + 1 / 1x6 + 1x5");
        turned("add", "1 / 1x6", "1 / 1x1 + 1", GREAT);
        turned("add", "1 / 1x1 + 1", "1 / 1x6", GREAT);
        turned("add", "1 / 1x6 + 1", "1 / 1x6 + 2", GREAT);
        row(LOG, "add", HIGH, HIGH, "2x6t6 / 1");
        row(EXP, "add", HIGH, "1", "1x6t6 + 1 / 1");
        row(LOG, "add", "1 / " + HIGH, "1 / " + HIGH, "2 / 1x6t6");
        turned("add", "1x1 / 1x6 + 1", "1 / 1x6 + 1", "1x1 + 1 / 1x6 + 1");
        turned("add", "1x6 / 1x1 + 1", "1x5 / 1x1 + 1", "1x5 / 1");
        turned("add", "1 / 1x6 + 1x5", "1 / 1x6 + -1x5", "2 / 1x6 + -1x4");
        for (String letter : BOTH) {
            // Below stands t to the 12th at first, and x divides all the rest there.
            row(letter, "add", "1x1 / 1t6 + 1x1", "1x1 / 1t6 + 1x1", "2x1 / 1t6 + 1x1");
            row(letter, "add", "1x1 / 1t6 + 1x1", "1x2 / 1t6 + 1x1", "1x2 + 1x1 / 1t6 + 1x1");
            row(letter, "add", "1t6 / 1t6 + 1x1", "1x1 / 1t6 + 1x1", "1 / 1");
        }
    }

    private static void sumsOfZero() {
        for (String letter : LETTERS) {
            row(letter, "add", "0", "0", "0 / 1");
            row(letter, "add", "0", "1x6 + 5 / 1x6", "1x6 + 5 / 1x6");
            row(letter, "add", "1x6 + 5 / 1x6", "0", "1x6 + 5 / 1x6");
            row(letter, "add", "1x6 / 1x1 + 1", "-1x6 / 1x1 + 1", "0 / 1");
            row(letter, "add", "32002", "1", "0 / 1");
            row(letter, "add", "32002", "32002", "-2 / 1");
            row(letter, "add", "16001", "16002", "0 / 1");
        }
        turned("add", "1x6 + 1", "-1x6", "1 / 1");
        row(LOG, "add", "1x6t6 + 1x6t5", "-1x6t6", "1x6t5 / 1");
    }

    private static void promise6() {
        greatSums();
        sumsOfZero();
    }

    private static void promise7() {
        turned("less", "1x6", "1x5", "1x6 + -1x5 / 1");
        turned("less", "1x5", "1 / 1x1", "1x6 + -1 / 1x1");
        turned("less", "1x6", "1 / 1x1", GREAT);
        turned("less", "1 / 1x1", "1x6", GREAT);
        turned("less", "1 / 1x5", "1 / 1x1 + 1", "-1x5 + 1x1 + 1 / 1x6 + 1x5");
        turned("less", "1 / 1x6", "1 / 1x1 + 1", GREAT);
        turned("less", "1 / 1x1 + 1", "1 / 1x6", GREAT);
        turned("less", "1x6 / 1x6 + 1", "1x5 / 1x6 + 1", "1x6 + -1x5 / 1x6 + 1");
        turned("less", "1x6 / 1x1 + 1", "1 / 1x1 + 1", "1x5 + -1x4 + 1x3 + -1x2 + 1x1 + -1 / 1");
        row(LOG, "less", "1x6t6 + 1", HIGH, "1 / 1");
        row(EXP, "less", "1 / " + HIGH, "-1 / " + HIGH, "2 / 1x6t6");
        for (String letter : LETTERS) {
            row(letter, "less", "0", "0", "0 / 1");
            row(letter, "less", "0", "1x6 / 1x1 + 1", "-1x6 / 1x1 + 1");
            row(letter, "less", "1x6 / 1x1 + 1", "0", "1x6 / 1x1 + 1");
            row(letter, "less", "1x6 / 1x1 + 1", "1x6 / 1x1 + 1", "0 / 1");
            row(letter, "less", "0", "1", "-1 / 1");
            row(letter, "less", "0", "32002", "1 / 1");
            row(letter, "less", "1", "32002", "2 / 1");
            row(letter, "less", "32002", "1", "-2 / 1");
        }
    }

    private static void promise8() {
        turned("times", "1x5", "1x1", "1x6 / 1");
        turned("times", "1x6", "1x1", GREAT);
        turned("times", "1x1", "1x6", GREAT);
        turned("times", "1 / 1x5", "1 / 1x1", "1 / 1x6");
        turned("times", "1 / 1x6", "1 / 1x1", GREAT);
        turned("times", "1 / 1x1", "1 / 1x6", GREAT);
        turned("times", "1x6", "1x6", GREAT);
        turned("times", "1 / 1x6", "1 / 1x6", GREAT);
        turned("times", "1x6 / 1x1 + 1", "1x1 + 1 / 1x1", "1x5 / 1");
        turned("times", "1x6 / 1x1 + 1", "1x1 / 1x6", "1x1 / 1x1 + 1");
        turned("times", "1x6 + 1 / 1x6 + 2", "1x6 + 2 / 1x6 + 1", "1 / 1");
        turned("times", "1x6 + 1 / 1x1", "1x1 / 1x6 + 1", "1 / 1");
        row(LOG, "times", "1x6", "1t6", "1x6t6 / 1");
        row(EXP, "times", "1 / 1x6", "1 / 1t6", "1 / 1x6t6");
        row(LOG, "times", HIGH, HIGH, GREAT);
        row(EXP, "times", "1 / " + HIGH, "1 / " + HIGH, GREAT);
        row(LOG, "times", HIGH, "1 / " + HIGH, "1 / 1");
        row(LOG, "times", HIGH, "1x1", GREAT);
        row(LOG, "times", HIGH, "1t1", GREAT);
        row(EXP, "times", HIGH, "32002", "-1x6t6 / 1");
        for (String letter : LETTERS) {
            row(letter, "times", "0", "0", "0 / 1");
            row(letter, "times", "0", "1x6 / 1x1 + 1", "0 / 1");
            row(letter, "times", "1 / 1x6", "0", "0 / 1");
            row(letter, "times", "32002", "32002", "1 / 1");
            row(letter, "times", "16001", "2", "-1 / 1");
        }
        row(LOG, "times", "0", HIGH, "0 / 1");
        row(EXP, "times", "1 / " + HIGH, "0", "0 / 1");
    }

    private static void promise9() {
        turned("over", "1x5", "1 / 1x1", "1x6 / 1");
        turned("over", "1x6", "1 / 1x1", GREAT);
        turned("over", "1x1", "1 / 1x6", GREAT);
        turned("over", "1 / 1x5", "1x1", "1 / 1x6");
        turned("over", "1 / 1x6", "1x1", GREAT);
        turned("over", "1 / 1x1", "1x6", GREAT);
        turned("over", "1x6", "1x6", "1 / 1");
        turned("over", "1x6 + 1 / 1x1", "1x6 + 1 / 1x1", "1 / 1");
        turned("over", "1x6 + 1 / 1x6 + 2", "1x6 + 1 / 1x6 + 2", "1 / 1");
        turned("over", "1x6 / 1x1 + 1", "1x1 / 1x1 + 1", "1x5 / 1");
        turned("over", "1", "2x1", "-16001 / 1x1");
        turned("over", "1x6", "-1", "-1x6 / 1");
        row(LOG, "over", HIGH, HIGH, "1 / 1");
        row(EXP, "over", "1", "-1x6t6", "-1 / 1x6t6");
        row(EXP, "over", HIGH, "1 / " + HIGH, GREAT);
        row(EXP, "over", "1 / " + HIGH, HIGH, GREAT);
        row(LOG, "over", "1t1", "1x6t1 + 1t1", "1 / 1x6 + 1");
        for (String letter : LETTERS) {
            row(letter, "over", "0", "1x6", "0 / 1");
            row(letter, "over", "0", "1x1 + 2 / 1x6", "0 / 1");
            row(letter, "over", "1x6", "0", "-1");
            row(letter, "over", "1 / 1x6", "0", "-1");
            row(letter, "over", "0", "0", "-1");
            row(letter, "over", "1", "32003", "-1");
            row(letter, "over", "1", "32002", "-1 / 1");
        }
        row(LOG, "over", HIGH, "0", "-1");
        row(EXP, "over", "1 / " + HIGH, "0", "-1");
    }

    /** "that of numbers is 0, that of x is 1", before t and after it. */
    private static void slopesWithoutT() {
        for (String letter : LETTERS) {
            row(letter, "derive", "0", "", "0 / 1");
            row(letter, "derive", "1", "", "0 / 1");
            row(letter, "derive", "32002", "", "0 / 1");
            row(letter, "derive", "1x1", "", "1 / 1");
            row(letter, "derive", "1x6", "", "6x5 / 1");
            row(letter, "derive", "1 / 1x5", "", "-5 / 1x6");
            row(letter, "derive", "1 / 1x6", "", GREAT);
            row(letter, "derive", "1 / 1x3 + 1", "", "-3x2 / 1x6 + 2x3 + 1");
            row(letter, "derive", "1 / 1x4 + 1", "", GREAT);
            row(letter, "derive", "1x6 / 1x1 + 1", "", "5x6 + 6x5 / 1x2 + 2x1 + 1");
            row(letter, "derive", "1x6 / 1x2 + 1", "", GREAT);
            row(letter, "derive", "1x6 + 1 / 1x6 + 2", "", GREAT);
        }
    }

    private static void slopesOfLogarithms() {
        row(LOG, "derive", "1t1", "", "1 / 1x1");
        row(LOG, "derive", "1t6", "", "6t5 / 1x1");
        row(LOG, "derive", "1 / 1t5", "", "-5 / 1x1t6");
        row(LOG, "derive", "1 / 1t6", "", GREAT);
        row(LOG, "derive", HIGH, "", "6x5t6 + 6x5t5 / 1");
        row(LOG, "derive", "1 / " + HIGH, "", GREAT);
        row(LOG, "derive", "1x1t1 / 1t6", "", "1t1 + -5 / 1t6");
        row(LOG, "derive", "1x6 / 1t5", "", "6x5t1 + -5x5 / 1t6");
        row(LOG, "derive", "1t1 / 1x5", "", "-5t1 + 1 / 1x6");
        row(LOG, "derive", "1t1 / 1x6", "", GREAT);
        row("log 1x6 + -1", "derive", "1t1", "", "6x5 / 1x6 + -1");
        row("log 1x6 + -1 / 1x1", "derive", "1t1", "", GREAT);
        row("log 1 / 1x6", "derive", "1t1", "", "-6 / 1x1");
        row("log 5x1", "derive", "1t1", "", "1 / 1x1");
    }

    private static void slopesOfExponentials() {
        row(EXP, "derive", "1t1", "", "1t1 / 1");
        row(EXP, "derive", "1t6", "", "6t6 / 1");
        row(EXP, "derive", "1 / 1t6", "", "-6 / 1t6");
        row(EXP, "derive", "1t5 / 1t1 + 1", "", "4t6 + 5t5 / 1t2 + 2t1 + 1");
        row(EXP, "derive", "1t6 / 1t1 + 1", "", GREAT);
        row(EXP, "derive", "1 / 1t5 + 5t4 + 10t3 + 10t2 + 5t1 + 1", "",
            "-5t1 / 1t6 + 6t5 + 15t4 + 20t3 + 15t2 + 6t1 + 1");
        row(EXP, "derive", "1 / 1t6 + 6t5 + 15t4 + 20t3 + 15t2 + 6t1 + 1", "", GREAT);
        row(EXP, "derive", HIGH, "", "6x6t6 + 6x5t6 / 1");
        row("exp 1x2", "derive", "1x5t6", "", "12x6t6 + 5x4t6 / 1");
        row("exp 1x2", "derive", HIGH, "", GREAT);
        row("exp 1x6 / 1x1 + 1", "derive", "1t1", "", "5x6t1 + 6x5t1 / 1x2 + 2x1 + 1");
        row("exp 1x6 / 1x2 + 1", "derive", "1t1", "", GREAT);
        row("exp 1 / 1x5", "derive", "1t1", "", "-5t1 / 1x6");
        row("exp 1 / 1x6", "derive", "1t1", "", GREAT);
    }

    private static void promise10() {
        slopesWithoutT();
        slopesOfLogarithms();
        slopesOfExponentials();
    }

    private static void promise11() {
        for (String letter : LETTERS) {
            row(letter, "logarithmic", "0", "", "-1");
            row(letter, "logarithmic", "32003", "", "-1");
            row(letter, "logarithmic", "1", "", "0 / 1");
            row(letter, "logarithmic", "-1", "", "0 / 1");
            row(letter, "logarithmic", "1x6", "", "6 / 1x1");
            row(letter, "logarithmic", "1 / 1x6", "", "-6 / 1x1");
            row(letter, "logarithmic", "1x6 + -1", "", "6x5 / 1x6 + -1");
            row(letter, "logarithmic", "1 / 1x6 + -1", "", "-6x5 / 1x6 + -1");
            row(letter, "logarithmic", "1x6 + -1 / 1x1", "", GREAT);
            row(letter, "logarithmic", "1x1 / 1x6 + -1", "", GREAT);
            row(letter, "logarithmic", "1x6 + -1 / 1x6 + 1", "", GREAT);
        }
        row(LOG, "logarithmic", "1t6 + 1x1", "", "6t5 + 1x1 / 1x1t6 + 1x2");
        row(LOG, "logarithmic", "1t6 + 1x1 / 1t1", "", GREAT);
        row(LOG, "logarithmic", "1 / 1t6", "", "-6 / 1x1t1");
        row(LOG, "logarithmic", HIGH, "", "6t1 + 6 / 1x1t1");
        row(LOG, "logarithmic", "1 / " + HIGH, "", "-6t1 + -6 / 1x1t1");
        row(EXP, "logarithmic", "1t6", "", "6 / 1");
        row(EXP, "logarithmic", "1 / " + HIGH, "", "-6x1 + -6 / 1x1");
        row(EXP, "logarithmic", "1t6 + 1", "", "6t6 / 1t6 + 1");
        row(EXP, "logarithmic", "1t6 + 1 / 1t1 + 1", "", GREAT);
        row("exp 1x6 / 1x1 + 1", "logarithmic", "1t1", "", "5x6 + 6x5 / 1x2 + 2x1 + 1");
        row("exp 1x6 / 1x2 + 1", "logarithmic", "1t1", "", GREAT);
        row("log 1x6 + -1", "logarithmic", "1t1", "", "6x5 / 1x6t1 + -1t1");
        row("log 1x6 + -1 / 1x1", "logarithmic", "1t1", "", GREAT);
    }

    private static void parts(String letter, String element, String... dues) {
        for (int kind = 0; kind < dues.length; kind++) {
            row(letter, "part " + kind, element, "", dues[kind] + " / 1");
        }
    }

    private static void promise12() {
        for (String letter : LETTERS) {
            parts(letter, "0", "0", "1", "1", "1", "1");
            parts(letter, "32002", "-1", "1", "1", "1", "1");
            parts(letter, "1x6 / 2x5 + 2", "-16001x6", "1x5 + 1", "1", "1", "1");
        }
        for (String letter : BOTH) {
            parts(letter, HIGH, HIGH, "1", "1", "1", "1");
            parts(letter, "-1t6 / 1x6", "-1t6", "1x6", "1", "1", "1");
            parts(letter, "1t1 / 1t6 + 1x1", "1t1", "1t6 + 1x1", "1t6 + 1x1", "1t6 + 1x1", "1");
            parts(letter, "1 / 1x3t2 + 2x2t1 + 1x1", "1", "1x3t2 + 2x2t1 + 1x1", "1x1t1 + 1", "1x1t1 + 1", "1");
            parts(letter, "1 / 2t1 + 2", "-16001", "1t1 + 1", "1t1 + 1", "1t1 + 1", "1");
            parts(letter, "1 / 1x6t6 + 1x6", "1", "1x6t6 + 1x6", "1t6 + 1", "1t6 + 1", "1");
        }
        String many = "1x1t5 + 3x2t4 + 3x3t3 + 1x4t2";
        parts(LOG, "1 / " + many, "1", many, "1t2 + 1x1t1", "1t2 + 1x1t1", "1");
        parts(EXP, "1 / " + many, "1", many, "1t2 + 1x1t1", "1t1 + 1x1", "1t1");
        parts(LOG, "1 / " + HIGH, "1", HIGH, "1t1", "1t1", "1");
        parts(EXP, "1 / " + HIGH, "1", HIGH, "1t1", "1", "1t1");
        parts("exp 1 / 1x1", "1 / 1t6", "1", "1t6", "1t1", "1", "1t1");
        parts("exp 1 / 1x1", "1 / 1t3 + 1x1t2", "1", "1t3 + 1x1t2", "1t2 + 1x1t1", "1t1 + 1x1", "1t1");
        parts("log 1x1 / 1x1 + 1", "1 / 1t3 + 1x1t2", "1", "1t3 + 1x1t2", "1t2 + 1x1t1", "1t2 + 1x1t1", "1");
        parts("exp 1x6", "1 / 1x1t6 + 1t5", "1", "1x1t6 + 1t5", "1x1t2 + 1t1", "1x1t1 + 1", "1t1");
    }

    private static void promise13() {
        for (String letter : LETTERS) {
            row(letter, "common", "0", "0", "0 / 1");
            row(letter, "common", "0", "-3", "1 / 1");
            row(letter, "common", "7", "0", "1 / 1");
            row(letter, "common", "0", "2x6 + 4", "1x6 + 2 / 1");
            row(letter, "common", "2x6 + 4", "0", "1x6 + 2 / 1");
            row(letter, "common", "5", "32002", "1 / 1");
            row(letter, "common", "4x6", "-6x5", "1x5 / 1");
            row(letter, "common", "3x6 + 3", "5x6 + 5 / 1x1", "1x6 + 1 / 1");
            row(letter, "common", "1 / 1x6", "1 / 1x6", "1 / 1");
            row(letter, "common", "0", "1x1 / 1x6 + 1", "1x1 / 1");
        }
        for (String letter : BOTH) {
            row(letter, "common", HIGH, "2x6t6 / 1x1 + 1", "1x6t6 / 1");
            row(letter, "common", "2x6t6", "0", "1x6t6 / 1");
            row(letter, "common", "1x6", "1t6", "1 / 1");
            row(letter, "common", "1x6t1", "1x1t6", "1x1t1 / 1");
            row(letter, "common", "1 / 1t6", "1 / 1t6", "1 / 1");
            row(letter, "common", "-1x6t6 + -1", "2x6t6 + 2", "1x6t6 + 1 / 1");
        }
    }

    private static void promise14() {
        for (String letter : LETTERS) {
            row(letter, "same", "0", "32003", "true");
            row(letter, "same", "-1", "32002", "true");
            row(letter, "same", "0", "1", "false");
            row(letter, "same", "1", "-1", "false");
            row(letter, "same", "1x6", "1x5", "false");
            row(letter, "same", "1x6 / 1x2", "1x5 / 1x1", "true");
            row(letter, "same", "2 / 2x6", "1 / 1x6", "true");
            row(letter, "same", "1x6 + 1 / 1x6", "1x6 + 1", "false");
            row(letter, "same", "1 / 1x6", "1 / 1x6 + 1", "false");
            row(letter, "same", "0", "0 / 1x6", "true");
        }
        for (String letter : BOTH) {
            row(letter, "same", HIGH, HIGH, "true");
            row(letter, "same", HIGH, "2x6t6", "false");
            row(letter, "same", "1 / " + HIGH, "1 / 1x5t6", "false");
            row(letter, "same", "1x6t1 / 1t1", "1x6", "true");
            row(letter, "same", "1t1", "1x1", "false");
        }
    }

    private static void promise15() {
        for (String letter : LETTERS) {
            for (String number : new String[] {"0", "1", "-1", "16001", "32002", "1x6 / 2x6"}) {
                row(letter, "constant", number, "", "true");
            }
            for (String other : new String[] {"1x1", "1 / 1x1", "1x6", "1 / 1x6", "1x6 / 1x6 + 1", "5x1 + 7"}) {
                row(letter, "constant", other, "", "false");
            }
        }
        for (String letter : BOTH) {
            row(letter, "constant", "3t6 / 1t6", "", "true");
            for (String other : new String[] {"1t1", "1 / 1t1", "1t6", "1 / 1t6", HIGH, "1 / " + HIGH}) {
                row(letter, "constant", other, "", "false");
            }
        }
        row("exp 1x6 / 1x2 + 1", "constant", "1t1", "", "false");
    }

    private static void promise16() {
        for (String letter : LETTERS) {
            for (String without : new String[] {"0", "1", "-1", "1x6", "1 / 1x6", "1x1 + 1 / 1x6"}) {
                row(letter, "low", without, "", "true");
            }
        }
        for (String letter : BOTH) {
            for (String with : new String[] {"1t1", "1t6", HIGH, "1x1 / 1t1", "1 / 1t6", "1 / " + HIGH, "1t1 + 1",
                "1x6t6 + 1", "1 / 1x6t6 + 1"}) {
                row(letter, "low", with, "", "false");
            }
            row(letter, "low", "1t6 / 1t6", "", "true");
            row(letter, "low", "1x1t6 + 1t6 / 1t6", "", "true");
        }
    }

    public static void main(String[] args) {
        Runnable nothing = () -> { };
        runAll("BoundaryRows", new Runnable[] {nothing, nothing, nothing, nothing, nothing, BoundaryRows::promise6,
            BoundaryRows::promise7, BoundaryRows::promise8, BoundaryRows::promise9, BoundaryRows::promise10,
            BoundaryRows::promise11, BoundaryRows::promise12, BoundaryRows::promise13, BoundaryRows::promise14,
            BoundaryRows::promise15, BoundaryRows::promise16});
    }
}
