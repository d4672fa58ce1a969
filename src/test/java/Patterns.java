import java.math.BigInteger;
import java.util.ArrayList;
import java.util.List;

/** Patterns at every edge of the kinds, and a stream of others that is the same in every run. */
final class Patterns {
    /** Sign and power, and fraction. */
    record Pattern(int top, long fraction) {
    }

    private static final int[] POWERS = {0, 1, 2, 3, 11, 12, 40, 41, 62, 63, 64, 65, 66, 100, 16382, 16383, 16384,
        32702, 32703, 32764, 32765, 32766, 32767};
    private static final long[] FRACTIONS = {0L, 1L, 2L, 3L, 0x3ffL, 0x400L, 0x401L, 0x7ffL, 0x800L, 0xc00L,
        1L << 32, 1L << 39, 3L << 39, 1L << 40, (1L << 40) + 1L, 0x3fffffffffffffffL, 0x4000000000000000L,
        0x4000000000000001L, Long.MAX_VALUE - 1L, Long.MAX_VALUE, Long.MIN_VALUE, Long.MIN_VALUE + 1L,
        Long.MIN_VALUE + 0x400L, Long.MIN_VALUE + 0xc00L, Long.MIN_VALUE + (1L << 39), Long.MIN_VALUE + (3L << 39),
        0xc000000000000000L, -1L << 40, -1L << 39, -1L << 11, -1L << 10, -2L, -1L};

    /** Where the first digit of a make() is aimed at: about these powers the way of making changes. */
    private static final int[] AIMS = {-33001, -16510, -16448, -16446, -16445, -16444, -16435, -16434, -16433, -16406,
        -16405, -16404, -16384, -16383, -16382, -16381, 0, 16381, 16382, 16383, 16384, 16385, 33127};

    private long state;

    Patterns(long seed) {
        state = seed;
    }

    static List<Pattern> edges() {
        List<Pattern> all = new ArrayList<>();
        for (int power : POWERS) {
            for (long fraction : FRACTIONS) {
                all.add(new Pattern(power, fraction));
                all.add(new Pattern(power | 0x8000, fraction));
            }
        }
        return all;
    }

    /** splitmix64: a fixed stream, so that a failure can be run again. */
    long next() {
        state += 0x9e3779b97f4a7c15L;
        long z = state;
        z = (z ^ z >>> 30) * 0xbf58476d1ce4e5b9L;
        z = (z ^ z >>> 27) * 0x94d049bb133111ebL;
        return z ^ z >>> 31;
    }

    int below(int bound) {
        return (int) Long.remainderUnsigned(next(), bound);
    }

    /** Bits with long runs of zeros and ones as often as bits without an order. */
    long bits() {
        switch (below(6)) {
            case 0:
                return next();
            case 1:
                return next() >>> below(64);
            case 2:
                return -1L << below(64);
            case 3:
                return -1L >>> below(64);
            case 4:
                return 1L << below(64) | 1L << below(64);
            default:
                return next() << below(64);
        }
    }

    /** The e of a make() of 2 g + l: mostly such that the first digit is at one of the aims, always an allowed one. */
    int e(BigInteger doubled) {
        int e = below(4) == 0 ? below(66001) - 33000 : AIMS[below(AIMS.length)] - doubled.bitLength() + 2;
        return Math.max(-33000, Math.min(33000, e));
    }

    Pattern pattern() {
        int sign = below(2) << 15;
        int power = below(2) == 0 ? POWERS[below(POWERS.length)] : below(0x8000);
        return new Pattern(sign | power, bits());
    }
}
