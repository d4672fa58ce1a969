import java.math.BigInteger;

/**
 * Sizes of a whole number of units and 0 .. 7 eighths of one, and, written out, how each rounding answers them.
 * An eighth is the least part that lies on either side of the half and of both whole numbers.
 */
final class Eighths {
    private static final String NEAREST_TO_EVEN = "=----+++";
    private static final String NEAREST_TO_ODD = "=---++++";
    private static final String BELOW = "=-------";
    private static final String ABOVE = "=+++++++";

    /** The control's bits 8 and 9, and how many digits each stands for. */
    static final int[] PRECISIONS = {0, 1, 2, 3};
    static final int[] DIGITS = {24, 64, 53, 64};

    private Eighths() {
    }

    /** A new object with this control; its masks are the bits of the word that are given. */
    static TemporaryReals under(int precision, int rounding, int masks) {
        TemporaryReals x = new TemporaryReals();
        x.control(precision << 8 | rounding << 10 | masks);
        return x;
    }

    static String words(int precision, int rounding, boolean negative) {
        return "precision " + precision + " rounding " + rounding + (negative ? " sign -" : " sign +");
    }

    static int sign(boolean negative) {
        return negative ? 0x8000 : 0;
    }

    static BigInteger size(BigInteger units, int eighths) {
        return units.shiftLeft(3).add(BigInteger.valueOf(eighths));
    }

    /** 1 when the answer is the multiple above, -1 when it is that below, 0 when it is the size itself. */
    static int change(int rounding, boolean negative, BigInteger units, int eighths) {
        char sign = row(rounding, negative, units.testBit(0)).charAt(eighths);
        return sign == '=' ? 0 : sign == '+' ? 1 : -1;
    }

    private static String row(int rounding, boolean negative, boolean odd) {
        switch (rounding) {
            case 0:
                return odd ? NEAREST_TO_ODD : NEAREST_TO_EVEN;
            case 1:
                return negative ? ABOVE : BELOW;
            case 2:
                return negative ? BELOW : ABOVE;
            default:
                return BELOW;
        }
    }

    static BigInteger rounded(BigInteger units, int change) {
        return change > 0 ? units.add(BigInteger.ONE) : units;
    }
}
