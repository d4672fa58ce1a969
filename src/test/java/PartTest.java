/** Promise 4: top, high, low, kind and zeros of a register. */
public final class PartTest {
    public static void main(String[] args) {
        Check check = new Check();
        kinds(check);
        zeros(check);
        refused(check);
        check.end();
    }

    private static void dueKind(Check check, int top, long fraction, int kind) {
        TemporaryReals x = new TemporaryReals();
        State.set(x, 2, top, fraction);
        State.set(x, 3, top | 0x8000, fraction);
        check.due("kind of " + top + " " + fraction, x.part(2, 3), kind);
        check.due("kind of it with the sign -", x.part(3, 3), kind);
    }

    private static void kinds(Check check) {
        dueKind(check, 0, 0L, 0);
        dueKind(check, 0, 1L, 1);
        dueKind(check, 0, Long.MAX_VALUE, 1);
        dueKind(check, 0, Long.MIN_VALUE, 1);
        dueKind(check, 0, -1L, 1);
        int[] powers = {1, 2, 16383, 32765, 32766};
        for (int p : powers) {
            dueKind(check, p, 0L, 2);
            dueKind(check, p, 1L, 2);
            dueKind(check, p, Long.MAX_VALUE, 2);
            dueKind(check, p, Long.MIN_VALUE, 3);
            dueKind(check, p, -1L, 3);
        }
        dueKind(check, 32767, 0L, 4);
        dueKind(check, 32767, Long.MIN_VALUE, 4);
        dueKind(check, 32767, 1L, 5);
        dueKind(check, 32767, 0x4000000000000000L, 5);
        dueKind(check, 32767, 0x100000000L, 5);
        dueKind(check, 32767, Long.MAX_VALUE, 5);
        dueKind(check, 32767, Long.MIN_VALUE + 1L, 5);
        dueKind(check, 32767, 0xc000000000000000L, 5);
        dueKind(check, 32767, -1L, 5);
    }

    private static void zeros(Check check) {
        TemporaryReals x = new TemporaryReals();
        for (int bit = 0; bit < 64; bit++) {
            State.set(x, 6, 0x7fff, 1L << bit);
            check.due("zeros before bit " + bit, x.part(6, 4), 63 - bit);
            State.set(x, 6, 0, (1L << bit) | 1L);
            check.due("zeros before bit " + bit + " and 0", x.part(6, 4), 63 - bit);
        }
        State.set(x, 6, 0x8005, 0L);
        check.due("zeros when there is no 1", x.part(6, 4), 64);
    }

    private static void refused(Check check) {
        int[] registers = {-1, 8, Integer.MIN_VALUE, Integer.MAX_VALUE};
        int[] whats = {-1, 5, Integer.MIN_VALUE, Integer.MAX_VALUE};
        for (int i = 0; i < 4; i++) {
            TemporaryReals x = State.filled();
            int r = registers[i];
            int what = whats[i];
            State.dueRefused(check, "part(" + r + ", 0)", IndexOutOfBoundsException.class, x, () -> x.part(r, 0));
            State.dueRefused(check, "part(0, " + what + ")", IllegalArgumentException.class, x,
                    () -> x.part(0, what));
            State.dueRefused(check, "part(" + r + ", " + what + ")", IndexOutOfBoundsException.class, x,
                    () -> x.part(r, what));
        }
    }
}
