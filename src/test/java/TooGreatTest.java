import java.math.BigInteger;

/** Section "Terms": y >= 2^16384 with OVER masked and not masked, and what is just below it. */
public final class TooGreatTest {
    private static final long HIGHEST = Long.MIN_VALUE;
    private static final int OVER_MASK = 8;
    /** Of the other masks neither changes what is made of a great size. */
    private static final int[] OTHER_MASKS = {0, 16, 32, 48};

    public static void main(String[] args) {
        Check check = new Check();
        justBelow(check);
        infinite(check);
        greatest(check);
        notMasked(check);
        check.end();
    }

    private static long greatestFraction(int precision) {
        return -1L << 64 - Eighths.DIGITS[precision];
    }

    private static boolean goesInfinite(int rounding, boolean negative) {
        return rounding == 0 || rounding == (negative ? 1 : 2);
    }

    /** The greatest real of n digits and eighths of its unit: y alone says whether it is too great. */
    private static void justBelow(Check check) {
        check.by("Otherwise, if y >= 2^16384, OVER is told .. Otherwise the answer is y, and LOSS is told if y is not "
                + "x");
        for (int precision : Eighths.PRECISIONS) {
            BigInteger ones = BigInteger.ONE.shiftLeft(Eighths.DIGITS[precision]).subtract(BigInteger.ONE);
            for (int way = 0; way < 8; way++) {
                for (int eighths = 0; eighths < 8; eighths++) {
                    for (int others : OTHER_MASKS) {
                        dueJustBelow(check, precision, way / 2, way % 2 == 1, ones, eighths, others);
                        dueJustBelow(check, precision, way / 2, way % 2 == 1, ones, eighths, others | OVER_MASK);
                    }
                }
            }
        }
    }

    private static void dueJustBelow(Check check, int precision, int rounding, boolean negative, BigInteger ones,
            int eighths, int masks) {
        int change = Eighths.change(rounding, negative, ones, eighths);
        TemporaryReals x = Eighths.under(precision, rounding, masks);
        String what = Eighths.words(precision, rounding, negative) + " masks " + masks + " eighths " + eighths;
        int told = State.make(x, 4, negative, Eighths.size(ones, eighths), 16383 - Eighths.DIGITS[precision] - 1);
        check.due(what, told, change == 0 ? 0 : change > 0 ? 40 : 32);
        if (change <= 0) {
            check.duePattern(what, x, 4, Eighths.sign(negative) + 32766, greatestFraction(precision));
        } else {
            boolean masked = (masks & OVER_MASK) != 0;
            check.duePattern(what, x, 4, Eighths.sign(negative) + (masked ? 32767 : 16384 - 24576 + 16383), HIGHEST);
        }
        check.dueLast(what, x, told, 16383, change);
    }

    private static void infinite(Check check) {
        check.by("masked LOSS is told, too, and the answer is infinite (f is 2^63) when the rounding is to the nearest "
                + "or goes away from 0 (up without, down with the sign -)");
        for (int way = 0; way < 8; way++) {
            if (goesInfinite(way / 2, way % 2 == 1)) {
                allTooGreat(check, way / 2, way % 2 == 1);
            }
        }
    }

    private static void greatest(Check check) {
        check.by("or else the greatest real of n digits");
        for (int way = 0; way < 8; way++) {
            if (!goesInfinite(way / 2, way % 2 == 1)) {
                allTooGreat(check, way / 2, way % 2 == 1);
            }
        }
    }

    private static void allTooGreat(Check check, int rounding, boolean negative) {
        int[] ks = {16384, 16385, 20000, 32767, 32999};
        for (int precision : Eighths.PRECISIONS) {
            for (int k : ks) {
                for (int others : OTHER_MASKS) {
                    TemporaryReals x = Eighths.under(precision, rounding, OVER_MASK | others);
                    // Exact or not, of a size that is too great something is lost.
                    dueTooGreat(check, x, precision, rounding, negative, BigInteger.ONE, k);
                    dueTooGreat(check, x, precision, rounding, negative, BigInteger.ONE.shiftLeft(128).setBit(0), k);
                }
            }
            TemporaryReals x = Eighths.under(precision, rounding, 0x3f);
            dueTooGreat(check, x, precision, rounding, negative,
                    BigInteger.ONE.shiftLeft(129).subtract(BigInteger.ONE), 33127);
        }
    }

    private static void dueTooGreat(Check check, TemporaryReals x, int precision, int rounding, boolean negative,
            BigInteger doubled, int k) {
        String what = Eighths.words(precision, rounding, negative) + " k " + k + " " + doubled.toString(16);
        boolean infinite = goesInfinite(rounding, negative);
        check.due(what, State.make(x, 4, negative, doubled, k - doubled.bitLength() + 2), 40);
        check.duePattern(what, x, 4, Eighths.sign(negative) + (infinite ? 32767 : 32766),
                infinite ? HIGHEST : greatestFraction(precision));
        check.due(what + ": kind", x.part(4, 3), infinite ? 4 : 3);
        check.dueLast(what, x, 40, k, infinite ? 1 : -1);
    }

    private static void notMasked(Check check) {
        check.by("Not masked: the answer is y times 2^-24576, and LOSS is told if y is not x");
        int[] ks = {16384, 16385, 20000, 32767, 33010};
        for (int precision : Eighths.PRECISIONS) {
            int n = Eighths.DIGITS[precision];
            BigInteger least = BigInteger.ONE.shiftLeft(n - 1);
            BigInteger ones = BigInteger.ONE.shiftLeft(n).subtract(BigInteger.ONE);
            BigInteger[] all = {least, least.setBit(0), ones.clearBit(0), ones};
            for (BigInteger units : all) {
                for (int eighths = 0; eighths < 8; eighths++) {
                    for (int way = 0; way < 8; way++) {
                        for (int k : ks) {
                            dueNotMasked(check, precision, way / 2, way % 2 == 1, units, eighths, k);
                        }
                    }
                }
            }
        }
    }

    private static void dueNotMasked(Check check, int precision, int rounding, boolean negative, BigInteger units,
            int eighths, int k) {
        int n = Eighths.DIGITS[precision];
        int change = Eighths.change(rounding, negative, units, eighths);
        BigInteger answer = Eighths.rounded(units, change);
        boolean carry = answer.bitLength() > n;
        int told = change == 0 ? 8 : 40;
        String what = Eighths.words(precision, rounding, negative) + " k " + k + " units " + units + " eighths "
                + eighths;
        for (int others : OTHER_MASKS) {
            TemporaryReals x = Eighths.under(precision, rounding, others);
            check.due(what, State.make(x, 4, negative, Eighths.size(units, eighths), k - n - 1), told);
            check.duePattern(what, x, 4, Eighths.sign(negative) + k + (carry ? 1 : 0) - 24576 + 16383,
                    carry ? HIGHEST : answer.shiftLeft(64 - n).longValue());
            check.dueLast(what, x, told, k, change);
        }
    }
}
