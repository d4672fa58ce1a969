/** Promise 6: a register's real made once more, or copied when it is infinite or no number. */
public final class AgainTest {
    private static final long HIGHEST = Long.MIN_VALUE;

    public static void main(String[] args) {
        Check check = new Check();
        copiesOfInfinite(check);
        copiesOfNoNumber(check);
        zeros(check);
        otherKindsBecomeNormal(check);
        rounded(check);
        tooSmallMasked(check);
        tooSmallNotMasked(check);
        tooGreat(check);
        registers(check);
        noSuchRegister(check);
        noSuchRegisterToGoTo(check);
        check.end();
    }

    private static void dueAgain(Check check, TemporaryReals x, int told, int top, long fraction) {
        String what = "again " + x.part(0, 0) + " " + x.part(0, 1) + " " + x.part(0, 2);
        check.due(what, x.again(0, 5), told);
        check.duePattern(what, x, 5, top, fraction);
        check.due(what + ": last(0)", x.last(0), told);
    }

    private static void copiesOfInfinite(Check check) {
        check.by("(a copy, when it is infinite");
        dueCopied(check, 0L);
        dueCopied(check, HIGHEST);
    }

    private static void copiesOfNoNumber(Check check) {
        check.by("or no number)");
        for (int bit = 0; bit < 63; bit++) {
            dueCopied(check, 1L << bit);
            dueCopied(check, HIGHEST | 1L << bit);
        }
        dueCopied(check, Long.MAX_VALUE);
        dueCopied(check, -1L);
    }

    /** Neither the masks nor the rounding may touch what is copied, nor the precision its last digits. */
    private static void dueCopied(Check check, long fraction) {
        for (int word = 0; word < 0x1000; word += 0x108) {
            for (int top = 0x7fff; top <= 0xffff; top += 0x8000) {
                TemporaryReals x = State.filled(word);
                State.set(x, 0, top, fraction);
                dueAgain(check, x, 0, top, fraction);
                check.dueLast("a copy", x, 0, 0, 0);
            }
        }
    }

    private static void zeros(Check check) {
        check.by("of its sign and size: zeros of any kind become ZERO");
        int[] powers = {0, 1, 500, 32766};
        for (int word = 0; word < 0x1000; word += 8) {
            for (int p : powers) {
                TemporaryReals x = State.filled(word);
                State.set(x, 0, p, 0L);
                dueAgain(check, x, 0, 0, 0L);
                check.dueLast("a zero", x, 0, 0, 0);
                State.set(x, 0, 0x8000 + p, 0L);
                dueAgain(check, x, 0, 0x8000, 0L);
                check.dueLast("a zero", x, 0, 0, 0);
            }
        }
    }

    private static void otherKindsBecomeNormal(Check check) {
        check.by("Makes the real of register r, of its sign and size, once more: UNNORMAL and DENORMAL by their size");
        TemporaryReals x = new TemporaryReals();
        State.set(x, 0, 0, HIGHEST);
        dueAgain(check, x, 0, 1, HIGHEST);
        check.due("k of 2^-16382", x.last(1), -16382);
        State.set(x, 0, 0, -1L);
        dueAgain(check, x, 0, 1, -1L);
        State.set(x, 0, 0x8000 + 64, 1L);
        dueAgain(check, x, 0, 0x8001, HIGHEST);
        State.set(x, 0, 63, 1L);
        dueAgain(check, x, 0, 0, 0x4000000000000000L);
        State.set(x, 0, 1, 5L);
        dueAgain(check, x, 0, 0, 5L);
        check.due("k of 5 * 2^-16445", x.last(1), -16443);
        State.set(x, 0, 0, 5L);
        dueAgain(check, x, 0, 0, 5L);
        check.due("k of 5 * 2^-16445", x.last(1), -16443);
        State.set(x, 0, 32766, 1L);
        dueAgain(check, x, 0, 32766 - 63, HIGHEST);
        State.set(x, 0, 16383, 0xb000000000000000L);
        dueAgain(check, x, 0, 16383, 0xb000000000000000L);
        check.due("k of 1.375", x.last(1), 0);
        State.set(x, 0, 1, HIGHEST);
        dueAgain(check, x, 0, 1, HIGHEST);
        State.set(x, 0, 0xfffe, -1L);
        dueAgain(check, x, 0, 0xfffe, -1L);
        check.due("k of the greatest NORMAL", x.last(1), 16383);
    }

    private static void rounded(Check check) {
        check.by("Makes .. once more: rounded as the control says, and answers what is told");
        TemporaryReals x = new TemporaryReals();
        x.control(0x023f);
        State.set(x, 0, 0x8000 + 16383, 0x8000000000000400L);
        dueAgain(check, x, 32, 0x8000 + 16383, 0x8000000000000000L);
        check.dueLast("a tie to the even", x, 32, 0, -1);
        State.set(x, 0, 0x8000 + 16383, 0x8000000000000c00L);
        dueAgain(check, x, 32, 0x8000 + 16383, 0x8000000000001000L);
        check.dueLast("a tie to the even", x, 32, 0, 1);
        x.control(0x003f);
        State.set(x, 0, 100, -1L >>> 3);
        dueAgain(check, x, 32, 98, HIGHEST);
        check.dueLast("a carry", x, 32, 100 - 16383 - 3, 1);
        x.control(0x043f);
        State.set(x, 0, 0x8000 + 100, HIGHEST + 1L);
        dueAgain(check, x, 32, 0x8000 + 100, HIGHEST + (1L << 40));
        x.control(0x083f);
        dueAgain(check, x, 32, 0x8000 + 100, HIGHEST);
        x.control(0x0c3f);
        dueAgain(check, x, 32, 0x8000 + 100, HIGHEST);
    }

    private static void tooSmallMasked(Check check) {
        check.by("Makes .. once more: x < 2^-16382 with UNDER masked");
        TemporaryReals x = new TemporaryReals();
        State.set(x, 0, 0x8000, 1L);
        dueAgain(check, x, 0, 0x8000, 1L);
        State.set(x, 0, 0, Long.MAX_VALUE);
        dueAgain(check, x, 0, 0, Long.MAX_VALUE);
        x.control(0x003f);
        State.set(x, 0, 0, 1L << 40);
        dueAgain(check, x, 0, 0, 1L << 40);
        State.set(x, 0, 0, 3L << 39);
        dueAgain(check, x, 48, 0, 2L << 40);
        State.set(x, 0, 0, 1L << 39);
        dueAgain(check, x, 48, 0, 0L);
        check.dueLast("half a unit", x, 48, -16445 + 39, -1);
        State.set(x, 0, 0, Long.MAX_VALUE);
        dueAgain(check, x, 48, 1, HIGHEST);
        check.dueLast("up to 2^-16382", x, 48, -16383, 1);
        x.control(0x083f);
        State.set(x, 0, 0, 1L);
        dueAgain(check, x, 48, 0, 1L << 40);
    }

    private static void tooSmallNotMasked(Check check) {
        check.by("Makes .. once more: x < 2^-16382 with UNDER not masked");
        TemporaryReals x = new TemporaryReals();
        x.control(0x0300);
        State.set(x, 0, 0x8000, 1L);
        dueAgain(check, x, 16, 0x8000 - 16445 + 24576 + 16383, HIGHEST);
        check.dueLast("the least DENORMAL", x, 16, -16445, 0);
        State.set(x, 0, 1, Long.MAX_VALUE);
        dueAgain(check, x, 16, -16383 + 24576 + 16383, -2L);
        State.set(x, 0, 0, HIGHEST);
        dueAgain(check, x, 0, 1, HIGHEST);
        x.control(0x0000);
        State.set(x, 0, 0, Long.MAX_VALUE);
        dueAgain(check, x, 48, -16382 + 24576 + 16383, HIGHEST);
        check.dueLast("up to 2^-16382", x, 48, -16383, 1);
    }

    private static void tooGreat(Check check) {
        check.by("Makes .. once more: y >= 2^16384, OVER masked and not masked");
        int[] tops = {32766, 0xfffe};
        for (int top : tops) {
            TemporaryReals x = new TemporaryReals();
            State.set(x, 0, top, -1L);
            dueAgain(check, x, 0, top, -1L);
            x.control(0x023f);
            dueAgain(check, x, 40, top + 1, HIGHEST);
            check.dueLast("too great", x, 40, 16383, 1);
            x.control(0x0e3f);
            dueAgain(check, x, 32, top, -1L << 11);
            x.control(0x0200);
            dueAgain(check, x, 40, (top & 0x8000) + 16384 - 24576 + 16383, HIGHEST);
            check.dueLast("too great", x, 40, 16383, 1);
            State.set(x, 0, top, HIGHEST);
            dueAgain(check, x, 0, top, HIGHEST);
        }
    }

    private static void registers(Check check) {
        check.by("once more in another one: in that one alone");
        for (int r = 0; r < 8; r++) {
            for (int to = 0; to < 8; to++) {
                TemporaryReals x = State.filled();
                TemporaryReals twin = State.filled();
                State.set(x, r, 10, 0x2000000000000001L);
                State.set(twin, r, 10, 0x2000000000000001L);
                check.due("again(" + r + ", " + to + ")", x.again(r, to), 0);
                check.duePattern("again(" + r + ", " + to + ")", x, to, 8, 0x8000000000000004L);
                State.dueKeepsOthers(check, "again(" + r + ", " + to + ")", x, twin, to);
                check.dueTrue("again keeps the control", State.control(x).equals(State.control(twin)));
            }
        }
    }

    private static void noSuchRegister(Check check) {
        check.by("IndexOutOfBoundsException when there is no such register: r");
        for (int r : State.NO_REGISTERS) {
            for (int to = 0; to < 8; to++) {
                int register = to;
                State.dueRefused(check, "again(" + r + ", " + to + ")", IndexOutOfBoundsException.class,
                        x -> x.again(r, register));
            }
        }
    }

    private static void noSuchRegisterToGoTo(Check check) {
        check.by("IndexOutOfBoundsException when there is no such register: to");
        for (int to : State.NO_REGISTERS) {
            for (int r = 0; r < 8; r++) {
                int register = r;
                State.dueRefused(check, "again(" + r + ", " + to + ")", IndexOutOfBoundsException.class,
                        x -> x.again(register, to));
            }
            for (int r : State.NO_REGISTERS) {
                State.dueRefused(check, "again(" + r + ", " + to + ")", IndexOutOfBoundsException.class,
                        x -> x.again(r, to));
            }
        }
        TemporaryReals x = State.filled();
        State.set(x, 0, 0x7fff, 0L);
        String before = State.seen(x);
        check.dueThrows("a copy to no register", IndexOutOfBoundsException.class, () -> x.again(0, 8));
        check.dueTrue("a copy to no register changes nothing", before.equals(State.seen(x)));
    }
}
