/** An object with x and, where wanted, t, and elements made from texts: "1x2t1 + -3 / 1x1" is (xx t - 3) / x. */
final class Bench {
    final Tower tower = new Tower();
    final int x = tower.base();
    final int t;

    /** No letter for "", else "log .." or "exp .." of a fraction. */
    Bench(String letter) {
        t = letter.isEmpty() ? -1 : tower.letter(letter.startsWith("log ") ? 1 : 2, make(letter.substring(4)));
    }

    int make(String fraction) {
        String[] halves = fraction.split(" / ");
        int above = polynomial(halves[0]);
        return halves.length == 1 || halves[1].equals("1") ? above : tower.over(above, polynomial(halves[1]));
    }

    private int polynomial(String text) {
        int sum = -1;
        for (String term : text.split(" \\+ ")) {
            int h = term(term);
            sum = sum < 0 ? h : tower.add(sum, h);
        }
        return sum;
    }

    private int term(String text) {
        String number = text.split("[xt]")[0];
        int h = tower.number(Long.parseLong(number), 1);
        for (int i = number.length(); i + 1 < text.length(); i += 2) {
            int letter = text.charAt(i) == 'x' ? x : t;
            for (int power = text.charAt(i + 1) - '0'; power > 0; power--) {
                h = tower.times(h, letter);
            }
        }
        return h;
    }

    /** What a call of one element or two answers: the element that it makes, else its answer or what it throws. */
    String answer(String call, long... w) {
        int made = tower.count();
        String got = call.startsWith("part ") ? tower.answer("part", w[0], call.charAt(5) - '0') : tower.answer(call, w);
        boolean truth = call.equals("same") || call.equals("constant") || call.equals("low");
        return truth ? "" + got.equals("1") : got.equals("" + made) ? told(made) : got;
    }

    String told(int handle) {
        return Checks.text(tower, handle, 0) + " / " + Checks.text(tower, handle, 1);
    }
}
