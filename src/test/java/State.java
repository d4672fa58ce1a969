import java.math.BigInteger;

/** Objects in known states, and all that can be seen of one, to tell that a call changed nothing. */
final class State {
    /** Controls that differ in either mask, in precision and in rounding. */
    private static final int[] WORDS = {0x03ff, 0x0000, 0x0a10, 0x0508, 0x0e18};
    /** Beyond the registers by one, by a power of two that a mask would drop, and by as much as there is. */
    static final int[] NO_REGISTERS = {-1, 8, 9, 15, 16, -8, 256, 0x10000, Integer.MIN_VALUE, Integer.MAX_VALUE};

    private State() {
    }

    /** A call on an object that is given to it. */
    interface Use {
        void of(TemporaryReals x);
    }

    static void set(TemporaryReals x, int r, int top, long fraction) {
        x.set(r, top, (int) (fraction >>> 32), (int) fraction);
    }

    /** make() of the size doubled * 2^(e - 1): doubled is 2 g + l. */
    static int make(TemporaryReals x, int r, boolean negative, BigInteger doubled, int e) {
        BigInteger g = doubled.shiftRight(1);
        if (g.bitLength() > 128) {
            throw new IllegalStateException("the test's g has more than 128 bits");
        }
        return x.make(r, negative, e, g.shiftRight(96).intValue(), g.shiftRight(64).intValue(),
                g.shiftRight(32).intValue(), g.intValue(), doubled.testBit(0));
    }

    static String seen(TemporaryReals x) {
        StringBuilder text = new StringBuilder();
        for (int r = 0; r < 8; r++) {
            text.append(x.part(r, 0)).append(' ').append(x.part(r, 1)).append(' ').append(x.part(r, 2)).append(' ');
        }
        return text.append(x.last(0)).append(' ').append(x.last(1)).append(' ').append(x.last(2)).toString();
    }

    /** What makes show of the control: both masks, the precision by the digits, the rounding by the two signs. */
    static String control(TemporaryReals x) {
        StringBuilder text = new StringBuilder();
        text.append(x.make(0, false, 16384, 0, 0, 0, 1, false)).append(' ');
        text.append(x.make(0, false, -16383, 0, 0, 0, 1, false)).append(' ');
        for (int sign = 0; sign < 2; sign++) {
            // For each precision what lies behind the last digit is somewhat more than a half.
            x.make(0, sign == 1, 0, 0xc0000180, 0x00000c00, 0x80000000, 1, false);
            text.append(x.part(0, 1)).append(' ').append(x.part(0, 2)).append(' ');
        }
        return text.toString();
    }

    static TemporaryReals filled() {
        return filled(0x03ff);
    }

    /** Registers that all differ, and a last make() whose three answers differ from a new object's. */
    static TemporaryReals filled(int word) {
        TemporaryReals x = new TemporaryReals();
        x.control(word);
        for (int r = 0; r < 8; r++) {
            x.set(r, 0x9000 + r, 0x80000000 + 17 * r, 1000 + r);
        }
        x.make(7, true, 5, 0, 1, 2, 3, true);
        return x;
    }

    /** Looks that a refused call throws what is due and leaves the object as a twin that had no such call. */
    static void dueRefused(Check check, String what, Class<? extends RuntimeException> want, Use call) {
        dueRefusedOn(check, what, want, call, new TemporaryReals(), new TemporaryReals());
        for (int word : WORDS) {
            dueRefusedOn(check, what, want, call, filled(word), filled(word));
        }
    }

    private static void dueRefusedOn(Check check, String what, Class<? extends RuntimeException> want, Use call,
            TemporaryReals x, TemporaryReals twin) {
        check.dueThrows(what, want, () -> call.of(x));
        check.dueTrue(what + " changes no register and no last()", seen(x).equals(seen(twin)));
        check.dueTrue(what + " does not change the control", control(x).equals(control(twin)));
    }

    /** Looks that a call changes nothing but, if to is a register, what that one holds. */
    static void dueKeepsOthers(Check check, String what, TemporaryReals x, TemporaryReals twin, int to) {
        for (int r = 0; r < 8; r++) {
            if (r != to) {
                check.duePattern(what + " leaves register " + r, x, r, twin.part(r, 0),
                        (long) twin.part(r, 1) << 32 | twin.part(r, 2) & 0xffffffffL);
            }
        }
    }
}
