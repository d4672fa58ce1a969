/** Promise 3: a register's sign, power and fraction. */
public final class SetTest {
    public static void main(String[] args) {
        Check check = new Check();
        everyRegister(check);
        edges(check);
        keepsAllElse(check);
        noSuchRegister(check);
        topOfMoreBits(check);
        noSuchRegisterIsNamedFirst(check);
        check.end();
    }

    private static void everyRegister(Check check) {
        check.by("EIGHT REGISTERS, 0 .. 7, hold reals");
        TemporaryReals x = new TemporaryReals();
        for (int r = 0; r < 8; r++) {
            State.set(x, r, 0x1111 * r + 5, 0x0123456789abcdefL * (r + 1));
        }
        for (int r = 0; r < 8; r++) {
            check.duePattern("register " + r, x, r, 0x1111 * r + 5, 0x0123456789abcdefL * (r + 1));
        }
    }

    private static void edges(Check check) {
        check.by("A register's sign and power (top, 16 bits, the sign highest) and fraction (high and low, 32 bits "
                + "each)");
        int[] tops = {0, 1, 0x7ffe, 0x7fff, 0x8000, 0x8001, 0xfffe, 0xffff};
        long[] fractions = {0L, 1L, 0xffffffffL, 0x100000000L, 0x80000000L, Long.MAX_VALUE, Long.MIN_VALUE, -1L};
        for (int top : tops) {
            TemporaryReals x = new TemporaryReals();
            for (long fraction : fractions) {
                State.set(x, 4, top, fraction);
                check.duePattern("top " + top + " fraction " + fraction, x, 4, top, fraction);
            }
        }
    }

    private static void keepsAllElse(Check check) {
        check.by("set() changes the one register alone");
        for (int r = 0; r < 8; r++) {
            TemporaryReals x = State.filled();
            TemporaryReals twin = State.filled();
            x.set(r, 1, 2, 3);
            State.dueKeepsOthers(check, "set(" + r + ", ..)", x, twin, r);
            check.dueLast("set() is no make()", x, twin.last(0), twin.last(1), twin.last(2));
            check.dueTrue("the control", State.control(x).equals(State.control(twin)));
        }
    }

    private static void noSuchRegister(Check check) {
        check.by("IndexOutOfBoundsException when there is no such register");
        for (int r : State.NO_REGISTERS) {
            State.dueRefused(check, "set(" + r + ", 0, 1, 1)", IndexOutOfBoundsException.class, x -> x.set(r, 0, 1, 1));
            State.dueRefused(check, "set(" + r + ", 0xffff, 1, 1)", IndexOutOfBoundsException.class,
                    x -> x.set(r, 0xffff, 1, 1));
        }
    }

    private static void topOfMoreBits(Check check) {
        check.by("IllegalArgumentException when top has more than 16 bits");
        int[] tops = {0x10000, 0x10001, 0x18000, -1, -2, 0xffff8000, 0xffff0000, Integer.MIN_VALUE, Integer.MAX_VALUE};
        for (int top : tops) {
            for (int r = 0; r < 8; r++) {
                dueTopRefused(check, r, top);
            }
        }
        for (int bit = 16; bit < 32; bit++) {
            dueTopRefused(check, 3, 1 << bit);
        }
    }

    private static void dueTopRefused(Check check, int r, int top) {
        State.dueRefused(check, "set(" + r + ", " + top + ", 1, 1)", IllegalArgumentException.class,
                x -> x.set(r, top, 1, 1));
    }

    private static void noSuchRegisterIsNamedFirst(Check check) {
        check.by("where several exceptions that a call names fit, the one named first is thrown");
        int[] tops = {0x10000, -1, Integer.MIN_VALUE, Integer.MAX_VALUE};
        for (int r : State.NO_REGISTERS) {
            for (int top : tops) {
                State.dueRefused(check, "set(" + r + ", " + top + ", 1, 1)", IndexOutOfBoundsException.class,
                        x -> x.set(r, top, 1, 1));
            }
        }
    }
}
