/** An object with a model beside it: each call is made at both, and the answers are compared. */
final class Match {
    private static int wrong = 0;
    private static int answers = 0;

    final Tower tower = new Tower();
    final Model model = new Model();
    private final String name;

    /** How often the object has been used after it was made. */
    private int calls = 0;
    private String got = "";

    Match(String name) {
        this.name = name;
    }

    static int wrong() {
        return wrong;
    }

    static int answers() {
        return answers;
    }

    int calls() {
        return calls;
    }

    /** What the last call answered, or the name of what it threw. */
    String got() {
        return got;
    }

    /** Makes the call at both; the handle of what was made last is the answer. */
    int call(String call, long... w) {
        calls++;
        answers++;
        String due = model.answer(call, w);
        got = tower.answer(call, w);
        compare(call, w, due);
        return model.count() - 1;
    }

    private void compare(String call, long[] w, String due) {
        if (!due.equals(got)) {
            wrong++;
            System.out.println(name + ", call " + calls + ": " + told(call, w) + " answered " + got + ", due is " + due);
        }
    }

    /** Looks at every number of an element: 98 calls. */
    void look(int handle) {
        for (int i = 0; i < 98; i++) {
            call("at", handle, i / 2 / 7, i / 2 % 7, i % 2);
        }
    }

    static String told(String call, long... w) {
        StringBuilder s = new StringBuilder(call).append('(');
        for (int i = 0; i < w.length; i++) {
            s.append(i > 0 ? ", " : "").append(w[i]);
        }
        return s.append(')').toString();
    }
}
