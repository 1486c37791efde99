import java.math.BigInteger;

/** The document's draws by numbers without an end, brought back to 64 bits: nothing of them goes round by itself. */
final class Draws {
    private static final BigInteger ROUND = BigInteger.ONE.shiftLeft(64);
    private static final BigInteger TIMES = new BigInteger("6364136223846793005");
    private static final BigInteger MORE = new BigInteger("1442695040888963407");

    private BigInteger x;

    Draws(long seed) {
        x = BigInteger.valueOf(seed).mod(ROUND);
    }

    int next() {
        x = x.multiply(TIMES).add(MORE).mod(ROUND);
        return x.shiftRight(33).mod(BigInteger.valueOf(100)).intValue();
    }

    /** A seed, from some number on, whose first draws are these. */
    static long seedOf(long from, int... due) {
        for (long seed = from;; seed++) {
            Draws d = new Draws(seed);
            boolean is = true;
            for (int i = 0; i < due.length && is; i++) {
                is = d.next() == due[i];
            }
            if (is) {
                return seed;
            }
        }
    }
}
