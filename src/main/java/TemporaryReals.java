/** Eight registers of eighty-bit reals, made, rounded, compared and stepped as ../shared/DOC.md says. */
public final class TemporaryReals {
    public static final int NONE = -1;

    private static final int REGISTERS = 8;
    private static final int SIGN_BIT = 0x8000;
    private static final int POWER_MASK = 0x7fff;
    private static final int NEW_CONTROL = 0x03ff;
    private static final int GREATEST_E = 33000;

    private static final int ZERO = 0;
    private static final int DENORMAL = 1;
    private static final int UNNORMAL = 2;
    private static final int NORMAL = 3;
    private static final int INFINITE = 4;
    private static final int NO_NUMBER = 5;

    /** Each is the value that is told and, as the masks stand in the same places, the mask's bit too. */
    private static final int OVER = 8;
    private static final int UNDER = 16;
    private static final int LOSS = 32;

    private static final int NEAREST = 0;
    private static final int DOWN = 1;
    private static final int UP = 2;

    private static final long HIGHEST_BIT = 1L << 63;
    private static final long ALL_ONES = -1L;

    /** A NORMAL real of power p has its first digit at 2^(p - BIAS). */
    private static final int BIAS = 16383;
    private static final int LEAST_NORMAL_K = -16382;
    private static final int GREATEST_NORMAL_K = 16383;
    private static final int INFINITE_POWER = 32767;
    private static final int SCALE = 24576;

    private final int[] tops;
    private final long[] fractions;
    private int word;
    private int lastTold;
    private int lastK;
    private int lastChange;

    public TemporaryReals() {
        tops = new int[REGISTERS];
        fractions = new long[REGISTERS];
        word = NEW_CONTROL;
    }

    public void control(int word) throws IllegalArgumentException {
        if (hasMoreThan16Bits(word)) {
            throw new IllegalArgumentException("the control has 16 bits");
        }
        this.word = word;
    }

    public void set(int r, int top, int high, int low)
            throws IndexOutOfBoundsException, IllegalArgumentException {
        if (isNoRegister(r)) {
            throw new IndexOutOfBoundsException("no such register");
        }
        if (hasMoreThan16Bits(top)) {
            throw new IllegalArgumentException("sign and power have 16 bits");
        }
        tops[r] = top;
        fractions[r] = join(high, low);
    }

    public int part(int r, int what) throws IndexOutOfBoundsException, IllegalArgumentException {
        if (isNoRegister(r)) {
            throw new IndexOutOfBoundsException("no such register");
        }
        switch (what) {
            case 0:
                return tops[r];
            case 1:
                return (int) (fractions[r] >>> 32);
            case 2:
                return (int) fractions[r];
            case 3:
                return kindOf(r);
            case 4:
                return Long.numberOfLeadingZeros(fractions[r]);
            default:
                throw new IllegalArgumentException("no such part");
        }
    }

    public int make(int r, boolean negative, int e, int a, int b, int c, int d, boolean l)
            throws IndexOutOfBoundsException, IllegalArgumentException {
        if (isNoRegister(r)) {
            throw new IndexOutOfBoundsException("no such register");
        }
        if (e < -GREATEST_E || e > GREATEST_E) {
            throw new IllegalArgumentException("e is beyond 33000");
        }
        long first = join(a, b);
        long second = join(c, d);
        long third = l ? HIGHEST_BIT : 0L;
        int k = e + 127;
        if (first == 0L) {
            first = second;
            second = third;
            third = 0L;
            k -= 64;
        }
        // 64 zeros are left when g is 0: then the shift brings l itself to the head.
        int zeros = Long.numberOfLeadingZeros(first);
        long head = shiftIn(first, second, zeros);
        long tail = shiftIn(second, third, zeros);
        // Without zeros to drop, l lies below the tail; there it only tells that something is left.
        if (zeros == 0 && third != 0L) {
            tail |= 1L;
        }
        return makeSize(r, negative, k - zeros, head, tail);
    }

    public int again(int r, int to) throws IndexOutOfBoundsException {
        if (isNoRegister(r) || isNoRegister(to)) {
            throw new IndexOutOfBoundsException("no such register");
        }
        int kind = kindOf(r);
        if (kind == INFINITE || kind == NO_NUMBER) {
            copy(r, to);
            return tell(0, 0, 0);
        }
        long fraction = fractions[r];
        int zeros = Long.numberOfLeadingZeros(fraction);
        int k = Math.max(powerOf(r), 1) - BIAS - zeros;
        return makeSize(to, isNegative(r), k, shiftIn(fraction, 0L, zeros), 0L);
    }

    public int last(int what) throws IllegalArgumentException {
        switch (what) {
            case 0:
                return lastTold;
            case 1:
                return lastK;
            case 2:
                return lastChange;
            default:
                throw new IllegalArgumentException("no such part of the last answer");
        }
    }

    public int compare(int a, int b) throws IndexOutOfBoundsException {
        if (isNoRegister(a) || isNoRegister(b)) {
            throw new IndexOutOfBoundsException("no such register");
        }
        if (kindOf(a) == NO_NUMBER || kindOf(b) == NO_NUMBER) {
            return 2;
        }
        int signOfA = signum(a);
        int signOfB = signum(b);
        if (signOfA != signOfB) {
            return signOfA < signOfB ? -1 : 1;
        }
        return signOfA * compareSizes(a, b);
    }

    public void neighbour(int r, boolean up, int to) throws IndexOutOfBoundsException {
        if (isNoRegister(r) || isNoRegister(to)) {
            throw new IndexOutOfBoundsException("no such register");
        }
        int kind = kindOf(r);
        boolean negative = isNegative(r);
        boolean away = up != negative;
        if (kind == NO_NUMBER || (kind == INFINITE && away)) {
            copy(r, to);
        } else if (signum(r) == 0) {
            store(to, !up, 0, 1L);
        } else if (away) {
            storeNextGreater(to, negative, plainPower(r), plainFraction(r));
        } else {
            storeNextLesser(to, negative, plainPower(r), plainFraction(r));
        }
    }

    private static boolean isNoRegister(int r) {
        return r < 0 || r >= REGISTERS;
    }

    private static boolean hasMoreThan16Bits(int value) {
        return value < 0 || value > 0xffff;
    }

    private static long join(int high, int low) {
        return ((long) high << 32) | (low & 0xffffffffL);
    }

    /** The upper 64 bits of the pair shifted left; 0 and 64 stand apart, as Java takes a shift's count modulo 64. */
    private static long shiftIn(long upper, long lower, int count) {
        if (count <= 0) {
            return upper;
        }
        if (count >= 64) {
            return lower;
        }
        return (upper << count) | (lower >>> (64 - count));
    }

    private boolean isNegative(int r) {
        return (tops[r] & SIGN_BIT) != 0;
    }

    private int powerOf(int r) {
        return tops[r] & POWER_MASK;
    }

    private int kindOf(int r) {
        int power = powerOf(r);
        long fraction = fractions[r];
        if (power == INFINITE_POWER) {
            return (fraction & ~HIGHEST_BIT) == 0L ? INFINITE : NO_NUMBER;
        }
        if (power == 0) {
            return fraction == 0L ? ZERO : DENORMAL;
        }
        return fraction < 0L ? NORMAL : UNNORMAL;
    }

    private void store(int to, boolean negative, int power, long fraction) {
        tops[to] = (negative ? SIGN_BIT : 0) | power;
        fractions[to] = fraction;
    }

    private void copy(int from, int to) {
        tops[to] = tops[from];
        fractions[to] = fractions[from];
    }

    private int tell(int told, int k, int change) {
        lastTold = told;
        lastK = k;
        lastChange = change;
        return told;
    }

    private boolean isMasked(int what) {
        return (word & what) != 0;
    }

    private int digits() {
        switch ((word >> 8) & 3) {
            case 0:
                return 24;
            case 2:
                return 53;
            default:
                return 64;
        }
    }

    private int rounding() {
        return (word >> 10) & 3;
    }

    /** Whether a rounding that is not to the nearest takes the greater size. */
    private boolean goesAway(boolean negative) {
        int rounding = rounding();
        return (rounding == DOWN && negative) || (rounding == UP && !negative);
    }

    /**
     * Whether the multiple above is taken, when of x in units the whole part and the lost part
     * (64 bits behind the point, the last one also telling of all behind it) are these.
     */
    private boolean takesAbove(long whole, long lost, boolean negative) {
        if (lost == 0L) {
            return false;
        }
        if (rounding() != NEAREST) {
            return goesAway(negative);
        }
        if (lost == HIGHEST_BIT) {
            return (whole & 1L) != 0L;
        }
        return lost < 0L;
    }

    private static long wholePart(long head, int drop) {
        return drop >= 64 ? 0L : head >>> drop;
    }

    /** What the head loses with its lowest digits; the tail behind it counts only as more or less than a half. */
    private static long lostPart(long head, long tail, int drop) {
        if (drop <= 0) {
            return tail;
        }
        if (drop > 64) {
            return 1L;
        }
        long lost = head << (64 - drop);
        return tail == 0L ? lost : lost | 1L;
    }

    private static int changeOf(long lost, boolean above) {
        if (lost == 0L) {
            return 0;
        }
        return above ? 1 : -1;
    }

    /** Makes a real of the size whose first digit, at 2^k, is the head's highest bit; the tail goes on behind it. */
    private int makeSize(int to, boolean negative, int k, long head, long tail) {
        if (head == 0L) {
            store(to, negative, 0, 0L);
            return tell(0, 0, 0);
        }
        if (k < LEAST_NORMAL_K && isMasked(UNDER)) {
            return makeSmall(to, negative, k, head, tail);
        }
        return makeRounded(to, negative, k, head, tail);
    }

    private int makeSmall(int to, boolean negative, int k, long head, long tail) {
        int unused = 64 - digits();
        int drop = LEAST_NORMAL_K - k + unused;
        long whole = wholePart(head, drop);
        long lost = lostPart(head, tail, drop);
        boolean above = takesAbove(whole, lost, negative);
        long fraction = (above ? whole + 1L : whole) << unused;
        // Rounding may reach 2^-16382, which as a NORMAL real has the same fraction and the power 1.
        store(to, negative, fraction < 0L ? 1 : 0, fraction);
        return tell(lost == 0L ? 0 : UNDER + LOSS, k, changeOf(lost, above));
    }

    private int makeRounded(int to, boolean negative, int k, long head, long tail) {
        int unused = 64 - digits();
        long whole = wholePart(head, unused);
        long lost = lostPart(head, tail, unused);
        boolean above = takesAbove(whole, lost, negative);
        long fraction = (above ? whole + 1L : whole) << unused;
        int roundedK = k;
        // Only a carry out of the first digit leaves nothing.
        if (fraction == 0L) {
            fraction = HIGHEST_BIT;
            roundedK++;
        }
        int told = lost == 0L ? 0 : LOSS;
        if (k < LEAST_NORMAL_K) {
            told += UNDER;
            roundedK += SCALE;
        } else if (roundedK > GREATEST_NORMAL_K) {
            if (isMasked(OVER)) {
                return makeTooGreat(to, negative, k);
            }
            told += OVER;
            roundedK -= SCALE;
        }
        store(to, negative, roundedK + BIAS, fraction);
        return tell(told, k, changeOf(lost, above));
    }

    private int makeTooGreat(int to, boolean negative, int k) {
        if (rounding() == NEAREST || goesAway(negative)) {
            store(to, negative, INFINITE_POWER, HIGHEST_BIT);
            return tell(OVER + LOSS, k, 1);
        }
        store(to, negative, INFINITE_POWER - 1, ALL_ONES << (64 - digits()));
        return tell(OVER + LOSS, k, -1);
    }

    private int signum(int r) {
        if (kindOf(r) != INFINITE && fractions[r] == 0L) {
            return 0;
        }
        return isNegative(r) ? -1 : 1;
    }

    private int compareSizes(int a, int b) {
        int powerOfA = plainPower(a);
        int powerOfB = plainPower(b);
        if (powerOfA != powerOfB) {
            return powerOfA < powerOfB ? -1 : 1;
        }
        return Integer.signum(Long.compareUnsigned(plainFraction(a), plainFraction(b)));
    }

    /** How far the fraction can go left while the power stays 1 or more. */
    private int plainShift(int r) {
        return Math.min(Long.numberOfLeadingZeros(fractions[r]), Math.max(powerOf(r), 1) - 1);
    }

    /** The fraction of the one ZERO, DENORMAL, NORMAL or infinite real (f is 2^63) that has the register's size. */
    private long plainFraction(int r) {
        if (powerOf(r) == INFINITE_POWER) {
            return HIGHEST_BIT;
        }
        return shiftIn(fractions[r], 0L, plainShift(r));
    }

    /** The power that goes with plainFraction. */
    private int plainPower(int r) {
        if (powerOf(r) == INFINITE_POWER) {
            return INFINITE_POWER;
        }
        return plainFraction(r) < 0L ? Math.max(powerOf(r), 1) - plainShift(r) : 0;
    }

    private void storeNextGreater(int to, boolean negative, int power, long fraction) {
        if (fraction == ALL_ONES) {
            store(to, negative, power + 1, HIGHEST_BIT);
        } else {
            long next = fraction + 1L;
            store(to, negative, next < 0L ? Math.max(power, 1) : 0, next);
        }
    }

    private void storeNextLesser(int to, boolean negative, int power, long fraction) {
        if (fraction == HIGHEST_BIT && power > 1) {
            store(to, negative, power - 1, ALL_ONES);
        } else {
            long next = fraction - 1L;
            store(to, negative, next < 0L ? power : 0, next);
        }
    }
}
