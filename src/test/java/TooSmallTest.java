import java.math.BigInteger;

/** Section "Terms": x = 0, and x < 2^-16382 with UNDER masked and not masked. */
public final class TooSmallTest {
    private static final long HIGHEST = Long.MIN_VALUE;
    private static final int UNDER_MASK = 16;
    /** Of the other masks neither changes what is made of a small size. */
    private static final int[] OTHER_MASKS = {0, 8, 32, 40};

    public static void main(String[] args) {
        Check check = new Check();
        zero(check);
        masked(check);
        notMasked(check);
        atTheEdge(check);
        edgeIsThatOfX(check);
        farBelow(check);
        kinds(check);
        check.end();
    }

    private static void zero(Check check) {
        check.by("x = 0: ZERO with the sign");
        int[] es = {-33000, -16446, -16383, 0, 16384, 33000};
        for (int word = 0; word < 0x1000; word += 8) {
            TemporaryReals x = State.filled(word);
            for (int e : es) {
                check.due("0 under " + word, x.make(7, false, e, 0, 0, 0, 0, false), 0);
                check.duePattern("0 under " + word, x, 7, 0, 0L);
                check.dueLast("0 under " + word, x, 0, 0, 0);
                check.due("-0 under " + word, x.make(6, true, e, 0, 0, 0, 0, false), 0);
                check.duePattern("-0 under " + word, x, 6, 0x8000, 0L);
                check.dueLast("-0 under " + word, x, 0, 0, 0);
            }
        }
    }

    private static void masked(Check check) {
        check.by("with UNDER masked the answer is x rounded to the unit 2^(-16381 - n): if that is not x, UNDER and "
                + "LOSS are told");
        for (int precision : Eighths.PRECISIONS) {
            BigInteger most = BigInteger.ONE.shiftLeft(Eighths.DIGITS[precision] - 1).subtract(BigInteger.ONE);
            BigInteger[] all = {BigInteger.ZERO, BigInteger.ONE, BigInteger.TWO, BigInteger.valueOf(3),
                BigInteger.valueOf(0x5555), most.subtract(BigInteger.ONE), most};
            for (BigInteger units : all) {
                for (int eighths = 0; eighths < 8; eighths++) {
                    for (int way = 0; way < 8; way++) {
                        dueMasked(check, precision, way / 2, way % 2 == 1, units, eighths);
                    }
                }
            }
        }
    }

    private static void dueMasked(Check check, int precision, int rounding, boolean negative, BigInteger units,
            int eighths) {
        BigInteger size = Eighths.size(units, eighths);
        if (size.signum() == 0) {
            return;
        }
        int n = Eighths.DIGITS[precision];
        int change = Eighths.change(rounding, negative, units, eighths);
        long fraction = Eighths.rounded(units, change).shiftLeft(64 - n).longValue();
        int told = change == 0 ? 0 : 48;
        String what = Eighths.words(precision, rounding, negative) + " units " + units + " eighths " + eighths;
        for (int others : OTHER_MASKS) {
            TemporaryReals x = Eighths.under(precision, rounding, UNDER_MASK | others);
            // An eighth of the unit is 2^(-16384 - n), which is e - 1.
            check.due(what, State.make(x, 2, negative, size, -16383 - n), told);
            check.duePattern(what, x, 2, Eighths.sign(negative) + (fraction < 0L ? 1 : 0), fraction);
            check.dueLast(what, x, told, size.bitLength() - 1 - 16384 - n, change);
        }
    }

    private static void notMasked(Check check) {
        check.by("Not masked: the answer is y times 2^24576, UNDER is told, and LOSS if y is not x");
        int[] ks = {-16383, -16384, -16446, -16447, -20000, -32900};
        for (int precision : Eighths.PRECISIONS) {
            int n = Eighths.DIGITS[precision];
            BigInteger least = BigInteger.ONE.shiftLeft(n - 1);
            BigInteger ones = BigInteger.ONE.shiftLeft(n).subtract(BigInteger.ONE);
            BigInteger[] all = {least, least.setBit(0), ones.clearBit(0), ones};
            for (BigInteger units : all) {
                for (int eighths = 0; eighths < 8; eighths++) {
                    for (int way = 0; way < 8; way++) {
                        for (int k : ks) {
                            dueNotMasked(check, precision, way / 2, way % 2 == 1, units, eighths, k);
                        }
                    }
                }
            }
        }
    }

    private static void dueNotMasked(Check check, int precision, int rounding, boolean negative, BigInteger units,
            int eighths, int k) {
        int n = Eighths.DIGITS[precision];
        int change = Eighths.change(rounding, negative, units, eighths);
        BigInteger answer = Eighths.rounded(units, change);
        boolean carry = answer.bitLength() > n;
        int told = change == 0 ? 16 : 48;
        String what = Eighths.words(precision, rounding, negative) + " k " + k + " units " + units + " eighths "
                + eighths;
        for (int others : OTHER_MASKS) {
            TemporaryReals x = Eighths.under(precision, rounding, others);
            check.due(what, State.make(x, 2, negative, Eighths.size(units, eighths), k - n - 1), told);
            check.duePattern(what, x, 2, Eighths.sign(negative) + k + (carry ? 1 : 0) + 24576 + 16383,
                    carry ? HIGHEST : answer.shiftLeft(64 - n).longValue());
            check.dueLast(what, x, told, k, change);
        }
    }

    private static void atTheEdge(Check check) {
        check.by("If x < 2^-16382: 2^-16382 itself is not");
        BigInteger one = BigInteger.ONE;
        for (int word = 0; word < 0x1000; word += 8) {
            TemporaryReals x = new TemporaryReals();
            x.control(word);
            check.due("2^-16382 under " + word, State.make(x, 0, true, one, -16381), 0);
            check.duePattern("2^-16382 under " + word, x, 0, 0x8001, HIGHEST);
            check.dueLast("2^-16382 under " + word, x, 0, -16382, 0);
            // 2^-16382 and a 2^128th part of it.
            check.due("just above 2^-16382 under " + word, State.make(x, 0, false, one.shiftLeft(128).setBit(0),
                    -16381 - 128), 32);
            check.due("just above 2^-16382 under " + word, x.last(1), -16382);
        }
    }

    private static void edgeIsThatOfX(Check check) {
        check.by("If x < 2^-16382: a y or an answer of 2^-16382 is UNDER too");
        BigInteger ones = BigInteger.ONE.shiftLeft(129).subtract(BigInteger.ONE);
        for (int precision : Eighths.PRECISIONS) {
            for (int rounding = 0; rounding < 4; rounding++) {
                TemporaryReals x = Eighths.under(precision, rounding, UNDER_MASK);
                boolean above = rounding == 0 || rounding == 2;
                String what = "just below 2^-16382, " + Eighths.words(precision, rounding, false);
                // As a DENORMAL it has one digit less.
                long digits = -1L << 64 - Eighths.DIGITS[precision];
                check.due(what, State.make(x, 0, false, ones, -16382 - 129 + 1), 48);
                check.duePattern(what, x, 0, above ? 1 : 0, above ? HIGHEST : digits & Long.MAX_VALUE);
                check.dueLast(what, x, 48, -16383, above ? 1 : -1);
                x.control(precision << 8 | rounding << 10);
                check.due(what + " not masked", State.make(x, 0, false, ones, -16382 - 129 + 1), 48);
                check.duePattern(what + " not masked", x, 0, (above ? -16382 : -16383) + 24576 + 16383,
                        above ? HIGHEST : digits);
                check.dueLast(what + " not masked", x, 48, -16383, above ? 1 : -1);
            }
        }
    }

    private static void farBelow(Check check) {
        check.by("x rounded to the unit 2^(-16381 - n): of a size far below it, ZERO or the unit itself");
        for (int precision : Eighths.PRECISIONS) {
            int n = Eighths.DIGITS[precision];
            int[] ks = {-16381 - n - 2, -16381 - n - 3, -16381 - n - 63, -16381 - n - 64, -16381 - n - 65, -16446 - 64,
                -32768, -33000, -33001};
            for (int k : ks) {
                for (int way = 0; way < 8; way++) {
                    boolean negative = way % 2 == 1;
                    boolean above = way / 2 == 1 && negative || way / 2 == 2 && !negative;
                    TemporaryReals x = Eighths.under(precision, way / 2, 0x3f);
                    String what = "2^" + k + " " + Eighths.words(precision, way / 2, negative);
                    check.due(what, State.make(x, 5, negative, BigInteger.ONE, k + 1), 48);
                    check.duePattern(what, x, 5, Eighths.sign(negative), above ? 1L << 64 - n : 0L);
                    check.dueLast(what, x, 48, k, above ? 1 : -1);
                }
            }
        }
    }

    private static void kinds(Check check) {
        check.by("The answer is NORMAL, or, if it is below 2^-16382, DENORMAL or ZERO");
        TemporaryReals x = new TemporaryReals();
        for (int bit = 0; bit < 64; bit++) {
            x.make(0, bit % 2 == 1, -16445, 0, 0, (int) (1L << bit >>> 32), (int) (1L << bit), false);
            check.due("kind of 2^" + (bit - 16445), x.part(0, 3), bit == 63 ? 3 : 1);
        }
        x.make(0, true, -16447, 0, 0, 0, 1, false);
        check.due("kind of a quarter of the least DENORMAL, rounded", x.part(0, 3), 0);
        x.make(0, true, -16447, 0, 0, 0, 3, false);
        check.due("kind of three quarters of the least DENORMAL, rounded", x.part(0, 3), 1);
        x.make(0, false, -16446, 0, 0, -1, -1, false);
        check.due("kind of 2^-16382 reached by rounding", x.part(0, 3), 3);
        x.control(0x0f3f);
        x.make(0, false, -16446, 0, 0, -1, -1, false);
        check.due("kind of the greatest DENORMAL reached by rounding", x.part(0, 3), 1);
        x.control(0x0300);
        x.make(0, false, -33000, 0, 0, 0, 0, true);
        check.due("kind of the least size multiplied", x.part(0, 3), 3);
        x.make(0, false, 33000, -1, -1, -1, -1, true);
        check.due("kind of the greatest size multiplied", x.part(0, 3), 3);
    }
}
