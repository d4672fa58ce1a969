/** Promise 6: a register's real made once more, or copied when it is infinite or no number. */
public final class AgainTest {
    public static void main(String[] args) {
        Check check = new Check();
        copies(check);
        zeros(check);
        otherKindsBecomeNormal(check);
        rounded(check);
        tooSmallOrTooGreat(check);
        intoItself(check);
        refused(check);
        check.end();
    }

    private static void dueAgain(Check check, TemporaryReals x, int told, int top, long fraction) {
        String what = "again " + x.part(0, 0) + " " + x.part(0, 1) + " " + x.part(0, 2);
        check.due(what, x.again(0, 5), told);
        check.duePattern(what, x, 5, top, fraction);
        check.due(what + ": last(0)", x.last(0), told);
    }

    private static void copies(Check check) {
        int[] tops = {0x7fff, 0xffff};
        long[] fractions = {0L, Long.MIN_VALUE, 1L, Long.MAX_VALUE, -1L, 0xc000000000000000L};
        for (int top : tops) {
            for (long fraction : fractions) {
                TemporaryReals x = State.filled();
                x.control(0x0c00);
                State.set(x, 0, top, fraction);
                dueAgain(check, x, 0, top, fraction);
                check.dueLast("a copy", x, 0, 0, 0);
            }
        }
    }

    private static void zeros(Check check) {
        int[] powers = {0, 1, 500, 32766};
        for (int p : powers) {
            TemporaryReals x = State.filled();
            x.control(0);
            State.set(x, 0, p, 0L);
            dueAgain(check, x, 0, 0, 0L);
            State.set(x, 0, 0x8000 + p, 0L);
            dueAgain(check, x, 0, 0x8000, 0L);
            check.dueLast("a zero", x, 0, 0, 0);
        }
    }

    private static void otherKindsBecomeNormal(Check check) {
        TemporaryReals x = new TemporaryReals();
        State.set(x, 0, 0, Long.MIN_VALUE);
        dueAgain(check, x, 0, 1, Long.MIN_VALUE);
        check.due("k of 2^-16382", x.last(1), -16382);
        State.set(x, 0, 0x8000 + 64, 1L);
        dueAgain(check, x, 0, 0x8001, Long.MIN_VALUE);
        State.set(x, 0, 63, 1L);
        dueAgain(check, x, 0, 0, 0x4000000000000000L);
        State.set(x, 0, 1, 5L);
        dueAgain(check, x, 0, 0, 5L);
        check.due("k of 5 * 2^-16445", x.last(1), -16443);
        State.set(x, 0, 32766, 1L);
        dueAgain(check, x, 0, 32766 - 63, Long.MIN_VALUE);
        State.set(x, 0, 16383, 0xb000000000000000L);
        dueAgain(check, x, 0, 16383, 0xb000000000000000L);
        check.due("k of 1.375", x.last(1), 0);
    }

    private static void rounded(Check check) {
        TemporaryReals x = new TemporaryReals();
        x.control(0x023f);
        State.set(x, 0, 0x8000 + 16383, 0x8000000000000400L);
        dueAgain(check, x, 32, 0x8000 + 16383, 0x8000000000000000L);
        check.dueLast("a tie to the even", x, 32, 0, -1);
        State.set(x, 0, 0x8000 + 16383, 0x8000000000000c00L);
        dueAgain(check, x, 32, 0x8000 + 16383, 0x8000000000001000L);
        check.dueLast("a tie to the even", x, 32, 0, 1);
        State.set(x, 0, 32766, -1L);
        dueAgain(check, x, 40, 32767, Long.MIN_VALUE);
        x.control(0x003f);
        State.set(x, 0, 100, -1L >>> 3);
        dueAgain(check, x, 32, 98, Long.MIN_VALUE);
        State.set(x, 0, 0, 1L << 40);
        dueAgain(check, x, 0, 0, 1L << 40);
        State.set(x, 0, 0, 3L << 39);
        dueAgain(check, x, 48, 0, 2L << 40);
    }

    private static void tooSmallOrTooGreat(Check check) {
        TemporaryReals x = new TemporaryReals();
        x.control(0x0300);
        State.set(x, 0, 0x8000, 1L);
        dueAgain(check, x, 16, 0x8000 - 16445 + 24576 + 16383, Long.MIN_VALUE);
        x.control(0x0200);
        State.set(x, 0, 32766, -1L);
        dueAgain(check, x, 40, 16384 - 24576 + 16383, Long.MIN_VALUE);
        check.dueLast("too great", x, 40, 16383, 1);
    }

    private static void intoItself(Check check) {
        TemporaryReals x = new TemporaryReals();
        State.set(x, 3, 10, 0x2000000000000001L);
        check.due("again(3, 3)", x.again(3, 3), 0);
        check.duePattern("again(3, 3)", x, 3, 8, 0x8000000000000004L);
        State.set(x, 2, 40, 1L << 62);
        x.again(2, 6);
        check.duePattern("the first register stays", x, 2, 40, 1L << 62);
    }

    private static void refused(Check check) {
        int[] registers = {-1, 8, Integer.MIN_VALUE, Integer.MAX_VALUE};
        for (int r : registers) {
            TemporaryReals x = State.filled();
            State.dueRefused(check, "again(" + r + ", 0)", IndexOutOfBoundsException.class, x, () -> x.again(r, 0));
            State.dueRefused(check, "again(0, " + r + ")", IndexOutOfBoundsException.class, x, () -> x.again(0, r));
            State.dueRefused(check, "again(r, r)", IndexOutOfBoundsException.class, x, () -> x.again(r, r));
        }
    }
}
