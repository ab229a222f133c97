/** What chance gives, each time that it is wanted, said once for the tests of draws. */
final class Wanted {
    private static final int MODULUS = 65537;

    private Wanted() {
    }

    static int next(int x) {
        return (int) ((75L * x + 74) % MODULUS);
    }

    static int after(int x, int times) {
        int then = x;
        for (int k = 0; k < times; k++) {
            then = next(then);
        }
        return then;
    }

    /** The x from which the next one is this. */
    static int before(int x) {
        for (int seed = 0; seed < MODULUS; seed++) {
            if (next(seed) == x) {
                return seed;
            }
        }
        throw new IllegalArgumentException();
    }
}
