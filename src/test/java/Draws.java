import java.math.BigInteger;

/** The draws of YEARS told anew, with numbers that know no bound. */
final class Draws {
    private static final BigInteger ROUND = BigInteger.ONE.shiftLeft(64);
    private static final BigInteger TIMES = new BigInteger("6364136223846793005");
    private static final BigInteger MORE = new BigInteger("1442695040888963407");
    private BigInteger x;

    Draws(long seed) {
        x = BigInteger.valueOf(seed).mod(ROUND);
    }

    int next(int m) {
        x = x.multiply(TIMES).add(MORE).mod(ROUND);
        return x.shiftRight(33).mod(BigInteger.valueOf(m)).intValue();
    }
}
