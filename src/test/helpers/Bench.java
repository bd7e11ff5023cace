/** An object with x and, where wanted, t, and elements made from texts: "1x2t1 + -3 / 1x1" is (xx t - 3) / x. */
final class Bench {
    final TowerFields tower = new TowerFields();
    final int x = tower.base();
    final int t;

    /** No letter for "", else "log .." or "exp .." of a fraction. */
    Bench(String letter) {
        t = letter.isEmpty() ? -1 : tower.letter(letter.startsWith("log ") ? 1 : 2, make(letter.substring(4)));
    }

    int make(String fraction) {
        String[] halves = fraction.split(" / ");
        int above = polynomial(halves[0]);
        return halves.length == 1 || halves[1].equals("1") ? above : tower.over(above, polynomial(halves[1]));
    }

    private int polynomial(String text) {
        int sum = -1;
        for (String term : text.split(" \\+ ")) {
            int h = term(term);
            sum = sum < 0 ? h : tower.add(sum, h);
        }
        return sum;
    }

    private int term(String text) {
        String number = text.split("[xt]")[0];
        int h = tower.number(Long.parseLong(number), 1);
        for (int i = number.length(); i + 1 < text.length(); i += 2) {
            int letter = text.charAt(i) == 'x' ? x : t;
            for (int power = text.charAt(i + 1) - '0'; power > 0; power--) {
                h = tower.times(h, letter);
            }
        }
        return h;
    }

    /** What a call answers: the element that it makes, else its answer or the name of what it throws. */
    String answer(String call, int a, int b) {
        String got;
        try {
            got = run(call, a, b);
        } catch (RuntimeException e) {
            return e.getClass().getSimpleName();
        }
        return got.equals("" + (tower.count() - 1)) ? told(tower.count() - 1) : got;
    }

    String told(int handle) {
        return Checks.text(tower, handle, 0) + " / " + Checks.text(tower, handle, 1);
    }

    private String run(String call, int a, int b) {
        switch (call) {
            case "add": return "" + tower.add(a, b);
            case "less": return "" + tower.less(a, b);
            case "times": return "" + tower.times(a, b);
            case "over": return "" + tower.over(a, b);
            case "common": return "" + tower.common(a, b);
            case "derive": return "" + tower.derive(a);
            case "logarithmic": return "" + tower.logarithmic(a);
            case "same": return "" + tower.same(a, b);
            case "constant": return "" + tower.constant(a);
            case "low": return "" + tower.low(a);
            default: return "" + tower.part(a, call.charAt(call.length() - 1) - '0');
        }
    }
}
