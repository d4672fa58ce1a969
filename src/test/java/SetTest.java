/** Promise 3: a register's sign, power and fraction; no such register before a top of more than 16 bits. */
public final class SetTest {
    public static void main(String[] args) {
        Check check = new Check();
        everyRegister(check);
        edges(check);
        refused(check);
        check.end();
    }

    private static void everyRegister(Check check) {
        TemporaryReals x = new TemporaryReals();
        for (int r = 0; r < 8; r++) {
            State.set(x, r, 0x1111 * r + 5, 0x0123456789abcdefL * (r + 1));
        }
        for (int r = 0; r < 8; r++) {
            check.duePattern("register " + r, x, r, 0x1111 * r + 5, 0x0123456789abcdefL * (r + 1));
        }
        check.dueLast("set() is no make()", x, 0, 0, 0);
    }

    private static void edges(Check check) {
        int[] tops = {0, 1, 0x7ffe, 0x7fff, 0x8000, 0x8001, 0xfffe, 0xffff};
        long[] fractions = {0L, 1L, 0xffffffffL, 0x100000000L, 0x80000000L, Long.MAX_VALUE, Long.MIN_VALUE, -1L};
        for (int top : tops) {
            TemporaryReals x = new TemporaryReals();
            for (long fraction : fractions) {
                State.set(x, 4, top, fraction);
                check.duePattern("top " + top + " fraction " + fraction, x, 4, top, fraction);
            }
        }
    }

    private static void refused(Check check) {
        int[] registers = {-1, 8, Integer.MIN_VALUE, Integer.MAX_VALUE};
        int[] tops = {0x10000, -1, Integer.MIN_VALUE, Integer.MAX_VALUE};
        for (int i = 0; i < 4; i++) {
            TemporaryReals x = State.filled();
            int r = registers[i];
            int top = tops[i];
            State.dueRefused(check, "set(" + r + ", 0, ..)", IndexOutOfBoundsException.class, x,
                    () -> x.set(r, 0, 1, 1));
            State.dueRefused(check, "set(0, " + top + ", ..)", IllegalArgumentException.class, x,
                    () -> x.set(0, top, 1, 1));
            State.dueRefused(check, "set(" + r + ", " + top + ", ..)", IndexOutOfBoundsException.class, x,
                    () -> x.set(r, top, 1, 1));
        }
    }
}
