import java.math.BigInteger;

/**
 * The document's terms over whole numbers without a bound, written apart from the class: a size is a whole number
 * of units 2^FINEST, so that nothing is ever rounded but by roundTo.
 */
final class Model {
    /** Finer than every digit of any make(): e - 1 is -33001 or more. */
    static final int FINEST = -33100;
    static final int OVER = 8;
    static final int UNDER = 16;
    static final int LOSS = 32;

    int word = 0x03ff;
    int top;
    BigInteger fraction = BigInteger.ZERO;
    int told;
    int k;
    int change;

    static BigInteger power(int exponent) {
        return BigInteger.ONE.shiftLeft(exponent - FINEST);
    }

    static BigInteger unsigned(long bits) {
        return new BigInteger(Long.toUnsignedString(bits));
    }

    int digits() {
        int bits = (word >> 8) % 4;
        return bits == 0 ? 24 : bits == 2 ? 53 : 64;
    }

    BigInteger roundTo(BigInteger x, int unitExponent, boolean negative) {
        BigInteger unit = power(unitExponent);
        BigInteger[] parts = x.divideAndRemainder(unit);
        BigInteger below = parts[0].multiply(unit);
        if (parts[1].signum() == 0) {
            return below;
        }
        BigInteger above = below.add(unit);
        switch ((word >> 10) % 4) {
            case 1:
                return negative ? above : below;
            case 2:
                return negative ? below : above;
            case 3:
                return below;
            default:
                int nearer = x.subtract(below).compareTo(above.subtract(x));
                if (nearer == 0) {
                    return parts[0].testBit(0) ? above : below;
                }
                return nearer < 0 ? below : above;
        }
    }

    void make(boolean negative, BigInteger x) {
        told = 0;
        k = 0;
        change = 0;
        top = negative ? 0x8000 : 0;
        fraction = BigInteger.ZERO;
        if (x.signum() == 0) {
            return;
        }
        k = x.bitLength() - 1 + FINEST;
        BigInteger y = roundTo(x, k + 1 - digits(), negative);
        if (x.compareTo(power(-16382)) < 0) {
            makeUnder(negative, x, y);
        } else if (y.compareTo(power(16384)) >= 0) {
            makeOver(negative, x, y);
        } else {
            change = y.compareTo(x);
            told = change == 0 ? 0 : LOSS;
            write(negative, y);
        }
    }

    void again(int fromTop, long fromFraction) {
        if ((fromTop & 0x7fff) == 0x7fff) {
            told = 0;
            k = 0;
            change = 0;
            top = fromTop;
            fraction = unsigned(fromFraction);
        } else {
            make((fromTop & 0x8000) != 0, sizeOf(fromTop, fromFraction));
        }
    }

    private void makeUnder(boolean negative, BigInteger x, BigInteger y) {
        boolean masked = (word & 16) != 0;
        BigInteger answer = masked ? roundTo(x, -16381 - digits(), negative) : y;
        change = answer.compareTo(x);
        int lost = change == 0 ? 0 : LOSS;
        if (masked) {
            told = change == 0 ? 0 : UNDER + LOSS;
            write(negative, answer);
        } else {
            told = UNDER + lost;
            write(negative, answer.shiftLeft(24576));
        }
    }

    private void makeOver(boolean negative, BigInteger x, BigInteger y) {
        if ((word & 8) == 0) {
            change = y.compareTo(x);
            told = OVER + (change == 0 ? 0 : LOSS);
            write(negative, y.shiftRight(24576));
            return;
        }
        told = OVER + LOSS;
        int rounding = (word >> 10) % 4;
        boolean infinite = rounding == 0 || (rounding == 1 && negative) || (rounding == 2 && !negative);
        change = infinite ? 1 : -1;
        if (infinite) {
            top += 32767;
            fraction = BigInteger.ONE.shiftLeft(63);
        } else {
            write(negative, power(16384).subtract(power(16384 - digits())));
        }
    }

    /** The NORMAL, DENORMAL or ZERO real of a size that is one. */
    private void write(boolean negative, BigInteger size) {
        int first = size.bitLength() - 1 + FINEST;
        int p = size.signum() == 0 || first < -16382 ? 0 : first + 16383;
        BigInteger unit = power(Math.max(p, 1) - 16446);
        BigInteger[] parts = size.divideAndRemainder(unit);
        if (parts[1].signum() != 0 || p > 32766) {
            throw new IllegalStateException("the model's answer is no real");
        }
        top = (negative ? 0x8000 : 0) + p;
        fraction = parts[0];
    }

    static BigInteger sizeOf(int top, long fraction) {
        return unsigned(fraction).multiply(power(Math.max(top & 0x7fff, 1) - 16446));
    }

    static boolean isInfinite(int top, long fraction) {
        return (top & 0x7fff) == 0x7fff && (fraction == 0 || fraction == Long.MIN_VALUE);
    }

    static boolean isNoNumber(int top, long fraction) {
        return (top & 0x7fff) == 0x7fff && !isInfinite(top, fraction);
    }

    /** The number in units 2^FINEST; an infinite one is a number beyond all others. */
    static BigInteger numberOf(int top, long fraction) {
        BigInteger size = isInfinite(top, fraction) ? power(20000) : sizeOf(top, fraction);
        return (top & 0x8000) != 0 ? size.negate() : size;
    }

    static int compare(int topA, long fractionA, int topB, long fractionB) {
        if (isNoNumber(topA, fractionA) || isNoNumber(topB, fractionB)) {
            return 2;
        }
        return numberOf(topA, fractionA).compareTo(numberOf(topB, fractionB));
    }

    static int kind(int top, long fraction) {
        int p = top & 0x7fff;
        if (p == 0) {
            return fraction == 0 ? 0 : 1;
        }
        if (p == 32767) {
            return isInfinite(top, fraction) ? 4 : 5;
        }
        return fraction >= 0 ? 2 : 3;
    }

    /** All reals of 64 digits without sign, counted up from ZERO, as 0 .. 32767 * 2^63, the last one infinite. */
    private static BigInteger place(int top, long fraction) {
        if (isInfinite(top, fraction)) {
            return BigInteger.valueOf(32767).shiftLeft(63);
        }
        BigInteger size = sizeOf(top, fraction);
        int first = size.bitLength() - 1 + FINEST;
        if (size.signum() == 0 || first < -16382) {
            return size.divide(power(-16445));
        }
        int p = first + 16383;
        return BigInteger.valueOf(p - 1).shiftLeft(63).add(size.divide(power(p - 16446)));
    }

    /** Puts the neighbour's pattern into top and fraction. */
    void neighbour(int fromTop, long fromFraction, boolean up) {
        boolean negative = (fromTop & 0x8000) != 0;
        if (isNoNumber(fromTop, fromFraction) || (isInfinite(fromTop, fromFraction) && up != negative)) {
            top = fromTop;
            fraction = unsigned(fromFraction);
            return;
        }
        BigInteger from = place(fromTop, fromFraction);
        BigInteger signed = negative ? from.negate() : from;
        BigInteger next = up ? signed.add(BigInteger.ONE) : signed.subtract(BigInteger.ONE);
        boolean sign = next.signum() == 0 ? negative : next.signum() < 0;
        BigInteger place = next.abs();
        int p = place.shiftRight(63).intValueExact();
        top = (sign ? 0x8000 : 0) + p;
        BigInteger low = place.subtract(BigInteger.valueOf(p).shiftLeft(63));
        fraction = p == 0 ? low : low.add(BigInteger.ONE.shiftLeft(63));
    }
}
