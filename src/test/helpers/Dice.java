/** Numbers that look thrown, the same in each run of the tests. */
final class Dice {
    private long seed;

    Dice(long seed) {
        this.seed = seed;
    }

    /** From 0 to one less than the bound. */
    int roll(int bound) {
        seed = seed * 6364136223846793005L + 1442695040888963407L;
        return (int) ((seed >>> 33) % bound);
    }

    /** True once in so many. */
    boolean once(int in) {
        return roll(in) == 0;
    }

    /** One of the words, each as often as its weight says. */
    String pick(String[] words, int[] weights) {
        int sum = 0;
        for (int weight : weights) {
            sum += weight;
        }
        int r = roll(sum);
        int i = 0;
        while (r >= weights[i]) {
            r -= weights[i];
            i++;
        }
        return words[i];
    }
}
