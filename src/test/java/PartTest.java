/** Promise 4: top, high, low, kind and zeros of a register; KindTest has the kinds. */
public final class PartTest {
    public static void main(String[] args) {
        Check check = new Check();
        parts(check);
        zeros(check);
        noDigit(check);
        changesNothing(check);
        noSuchRegister(check);
        noSuchPart(check);
        check.end();
    }

    private static void parts(Check check) {
        check.by("what = 0 top, 1 high, 2 low, 3 its kind, 4 how many zeros");
        TemporaryReals x = new TemporaryReals();
        for (int r = 0; r < 8; r++) {
            x.set(r, 0xc000 + r, 0x00ffffff - r, 0x80000000 + r);
            check.due("top of " + r, x.part(r, 0), 0xc000 + r);
            check.due("high of " + r, x.part(r, 1), 0x00ffffff - r);
            check.due("low of " + r, x.part(r, 2), 0x80000000 + r);
            check.due("kind of " + r, x.part(r, 3), 2);
            check.due("zeros of " + r, x.part(r, 4), 8);
        }
    }

    private static void zeros(Check check) {
        check.by("4 how many zeros the fraction has before its first digit 1");
        int[] tops = {0, 1, 0x7fff, 0x8000, 0xffff};
        for (int top : tops) {
            TemporaryReals x = new TemporaryReals();
            for (int bit = 0; bit < 64; bit++) {
                State.set(x, 6, top, 1L << bit);
                check.due("zeros before bit " + bit, x.part(6, 4), 63 - bit);
                State.set(x, 6, top, (1L << bit) | 1L);
                check.due("zeros before bit " + bit + " and 0", x.part(6, 4), 63 - bit);
            }
        }
    }

    private static void noDigit(Check check) {
        check.by("(64 when there is none)");
        int[] tops = {0, 1, 5, 0x7ffe, 0x7fff, 0x8000, 0x8005, 0xffff};
        for (int top : tops) {
            TemporaryReals x = State.filled();
            State.set(x, 6, top, 0L);
            check.due("zeros with top " + top, x.part(6, 4), 64);
        }
    }

    private static void changesNothing(Check check) {
        check.by("part() only answers");
        TemporaryReals x = State.filled();
        for (int what = 0; what < 5; what++) {
            x.part(7, what);
        }
        TemporaryReals twin = State.filled();
        check.dueTrue("registers and last()", State.seen(x).equals(State.seen(twin)));
        check.dueTrue("the control", State.control(x).equals(State.control(twin)));
    }

    private static void noSuchRegister(Check check) {
        check.by("IndexOutOfBoundsException when there is no such register");
        for (int r : State.NO_REGISTERS) {
            for (int what = -1; what <= 5; what++) {
                int asked = what;
                State.dueRefused(check, "part(" + r + ", " + what + ")", IndexOutOfBoundsException.class,
                        x -> x.part(r, asked));
            }
        }
    }

    private static void noSuchPart(Check check) {
        check.by("IllegalArgumentException when what is none of these");
        int[] whats = {-1, 5, 6, 8, 256, Integer.MIN_VALUE, Integer.MAX_VALUE};
        for (int what : whats) {
            for (int r = 0; r < 8; r++) {
                int asked = r;
                State.dueRefused(check, "part(" + r + ", " + what + ")", IllegalArgumentException.class,
                        x -> x.part(asked, what));
            }
        }
    }
}
