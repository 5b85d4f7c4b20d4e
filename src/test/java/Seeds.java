import java.math.BigInteger;

/** Seeds by which years go as a test wants them. */
final class Seeds {
    private static final BigInteger TIMES = new BigInteger("6364136223846793005");
    private static final BigInteger PLUS = new BigInteger("1442695040888963407");
    private static final BigInteger WRAP = BigInteger.ONE.shiftLeft(64);

    private Seeds() {
    }

    /** What a seed becomes. */
    static long after(long seed) {
        return BigInteger.valueOf(seed).multiply(TIMES).add(PLUS).mod(WRAP).longValue();
    }

    /** The seed that becomes this one. */
    static long before(long seed) {
        return BigInteger.valueOf(seed).subtract(PLUS).multiply(TIMES.modInverse(WRAP)).mod(WRAP).longValue();
    }

    static int chanceOf(long seed) {
        BigInteger plain = BigInteger.valueOf(seed).mod(WRAP);
        return plain.shiftRight(33).mod(BigInteger.valueOf(32)).intValue();
    }

    /** A seed by which the next chances are these. */
    static long leadingTo(int... chances) {
        for (long low = 0; low < 10000000; low++) {
            // so the first chance holds whatever low is
            long first = (long) chances[0] << 33 | low * 77777 & (1L << 33) - 1;
            long x = first;
            boolean right = true;
            for (int i = 1; i < chances.length && right; i++) {
                x = x * TIMES.longValue() + PLUS.longValue();
                right = chanceOf(x) == chances[i];
            }
            if (right) {
                return before(first);
            }
        }
        throw new IllegalStateException("no such seed");
    }

    /** What years must answer of a manor without foods: powder and quarters alone count. */
    static int yearsWithoutFoods(long seed, int goodwill, int m) {
        int together = 0;
        int powder = 0;
        int will = goodwill;
        long x = seed;
        for (int i = 0; i < m; i++) {
            x = after(x);
            int chance = chanceOf(x);
            if (chance >= 26) {
                will = Math.max(0, Math.min(9, will + 1 - Integer.bitCount(powder)));
                powder = 0;
            } else if (chance >= 16) {
                powder |= 1 << chance - 16;
            }
            together += will;
        }
        return together;
    }

    /** What years answer by these chances. */
    static int years(AntLease x, int... chances) {
        x.seed(leadingTo(chances));
        return x.years(chances.length);
    }
}
