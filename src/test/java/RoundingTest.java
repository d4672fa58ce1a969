import java.math.BigInteger;

/** Section "Terms": to round, by each precision and each rounding and with either sign, away from the edges of p. */
public final class RoundingTest {
    private static final long HIGHEST = Long.MIN_VALUE;
    private static final int K = 77;

    public static void main(String[] args) {
        Check check = new Check();
        precisions(check);
        itself(check);
        nearest(check);
        ties(check);
        directed(check);
        carries(check);
        partsFarBehind(check);
        check.end();
    }

    private static BigInteger leastOf(int digits) {
        return BigInteger.ONE.shiftLeft(digits - 1);
    }

    private static BigInteger onesOf(int digits) {
        return BigInteger.ONE.shiftLeft(digits).subtract(BigInteger.ONE);
    }

    private static void precisions(Check check) {
        check.by("bits 8 and 9 the PRECISION n: 24 digits for 0, 53 for 2, 64 for 1 and 3");
        for (int precision : Eighths.PRECISIONS) {
            int n = Eighths.DIGITS[precision];
            TemporaryReals x = Eighths.under(precision, 0, 0x3f);
            // e = 1 makes the doubled number itself the size.
            check.due("n digits, precision " + precision, State.make(x, 0, false, leastOf(n).setBit(0), 1), 0);
            check.due("n + 1 digits, precision " + precision, State.make(x, 0, false, leastOf(n + 1).setBit(0), 1), 32);
        }
    }

    private static void itself(Check check) {
        check.by("TO ROUND .. is to take a multiple of the unit: x itself");
        for (int rounding = 0; rounding < 4; rounding++) {
            allUnits(check, rounding, 0, 0);
        }
    }

    private static void nearest(Check check) {
        check.by("0 to the nearest");
        allUnits(check, 0, 1, 3);
        allUnits(check, 0, 5, 7);
    }

    private static void ties(Check check) {
        check.by("of two that are as near that whose last digit is 0");
        allUnits(check, 0, 4, 4);
    }

    private static void directed(Check check) {
        check.by("1 down .. (down is, with the sign -, the greater size)");
        allUnits(check, 1, 1, 7);
        check.by("2 up");
        allUnits(check, 2, 1, 7);
        check.by("3 towards 0");
        allUnits(check, 3, 1, 7);
    }

    private static void allUnits(Check check, int rounding, int firstEighths, int lastEighths) {
        for (int precision : Eighths.PRECISIONS) {
            int n = Eighths.DIGITS[precision];
            BigInteger least = leastOf(n);
            BigInteger[] all = {least, least.setBit(0), least.setBit(1), least.setBit(n / 2),
                least.setBit(n / 2).setBit(0), onesOf(n).clearBit(0), onesOf(n)};
            for (BigInteger units : all) {
                for (int eighths = firstEighths; eighths <= lastEighths; eighths++) {
                    dueRounded(check, precision, rounding, false, units, eighths);
                    dueRounded(check, precision, rounding, true, units, eighths);
                }
            }
        }
    }

    private static void dueRounded(Check check, int precision, int rounding, boolean negative, BigInteger units,
            int eighths) {
        int n = Eighths.DIGITS[precision];
        TemporaryReals x = Eighths.under(precision, rounding, 0x3f);
        // The units have n digits and their eighths three more: the last of all is at 2^(K - n - 2), which is e - 1.
        int told = State.make(x, 1, negative, Eighths.size(units, eighths), K - n - 1);
        int change = Eighths.change(rounding, negative, units, eighths);
        BigInteger answer = Eighths.rounded(units, change);
        boolean carry = answer.bitLength() > n;
        String what = Eighths.words(precision, rounding, negative) + " units " + units + " eighths " + eighths;
        check.due(what, told, change == 0 ? 0 : 32);
        check.duePattern(what, x, 1, Eighths.sign(negative) + K + 16383 + (carry ? 1 : 0),
                carry ? HIGHEST : answer.shiftLeft(64 - n).longValue());
        check.dueLast(what, x, told, K, change);
    }

    private static void carries(Check check) {
        check.by("k be the whole number with 2^k <= x < 2^(k + 1), and y be x rounded: y may be 2^(k + 1)");
        for (int precision : Eighths.PRECISIONS) {
            int n = Eighths.DIGITS[precision];
            TemporaryReals x = Eighths.under(precision, 0, 0x3f);
            String what = "2^n - 1/2, precision " + precision;
            State.make(x, 3, true, onesOf(n + 1), 0);
            check.duePattern(what, x, 3, 0x8000 + n + 16383, HIGHEST);
            check.dueLast(what, x, 32, n - 1, 1);
        }
    }

    private static void partsFarBehind(Check check) {
        check.by("an exact size x, which is (2 g + l) times 2^(e - 1): its last bits still tell above from below");
        BigInteger first = BigInteger.ONE.shiftLeft(128);
        for (int precision : Eighths.PRECISIONS) {
            int half = 128 - Eighths.DIGITS[precision];
            for (int bit = 0; bit < half; bit++) {
                dueFarBehind(check, precision, first.setBit(bit), -1);
                dueFarBehind(check, precision, first.setBit(half).setBit(bit), 1);
                dueFarBehind(check, precision, first.setBit(half).subtract(BigInteger.ONE.shiftLeft(bit)), -1);
            }
        }
    }

    private static void dueFarBehind(Check check, int precision, BigInteger doubled, int nearest) {
        int[] withoutSign = {nearest, -1, 1, -1};
        int[] withSign = {nearest, 1, -1, -1};
        for (int rounding = 0; rounding < 4; rounding++) {
            TemporaryReals x = Eighths.under(precision, rounding, 0x3f);
            String digits = " " + doubled.toString(16);
            check.due(Eighths.words(precision, rounding, false) + digits, State.make(x, 0, false, doubled, -5), 32);
            check.due(Eighths.words(precision, rounding, false) + digits, x.last(2), withoutSign[rounding]);
            check.due(Eighths.words(precision, rounding, true) + digits, State.make(x, 0, true, doubled, -5), 32);
            check.due(Eighths.words(precision, rounding, true) + digits, x.last(2), withSign[rounding]);
        }
    }
}
