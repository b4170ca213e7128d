import java.math.BigInteger;

/** Seeds by which the seasons go as a test wants them to. */
final class Lots {
    static final long FACTOR = 6364136223846793005L;
    static final long ADDEND = 1442695040888963407L;

    private Lots() {
    }

    static int seasonsBy(LastBows x, int... lots) {
        x.seed(seedFor(lots));
        return x.seasons(lots.length);
    }

    /** The least seed by which the seasons' lots are those that are asked for. */
    static long seedFor(int... lots) {
        for (long seed = 0; ; seed++) {
            long x = seed;
            int right = 0;
            while (right < lots.length) {
                x = x * FACTOR + ADDEND;
                if ((x >>> 33) % 24 != lots[right]) {
                    break;
                }
                right++;
            }
            if (right == lots.length) {
                return seed;
            }
        }
    }

    /** The seed that becomes x in one season. */
    static long seedAheadOf(long x) {
        BigInteger ring = BigInteger.ONE.shiftLeft(64);
        BigInteger back = BigInteger.valueOf(FACTOR).modInverse(ring);
        return BigInteger.valueOf(x).subtract(BigInteger.valueOf(ADDEND)).multiply(back).mod(ring).longValue();
    }

    /** What a seed becomes in so many seasons, reckoned without a machine's wrapping. */
    static long behind(long seed, int seasons) {
        BigInteger ring = BigInteger.ONE.shiftLeft(64);
        BigInteger x = BigInteger.valueOf(seed);
        for (int season = 0; season < seasons; season++) {
            x = x.multiply(BigInteger.valueOf(FACTOR)).add(BigInteger.valueOf(ADDEND)).mod(ring);
        }
        return x.longValue();
    }
}
