/** Promise 7: what was told, k, and how the answer lies to x, of the last make() or again() alone. */
public final class LastTest {
    public static void main(String[] args) {
        Check check = new Check();
        ofTheLastMakeOrAgain(check);
        beforeItWasMultiplied(check);
        otherCallsLeaveIt(check);
        refused(check);
        check.end();
    }

    private static void ofTheLastMakeOrAgain(Check check) {
        TemporaryReals x = new TemporaryReals();
        x.make(0, false, 3, 1, 0, 0, 1, false);
        check.dueLast("a make", x, 32, 99, -1);
        x.make(0, false, 3, 0, 0, 0, 1, false);
        check.dueLast("an exact make", x, 0, 3, 0);
        x.make(0, false, 16400, 0, 0, 0, 1, false);
        check.dueLast("infinite is greater", x, 40, 16400, 1);
        x.again(0, 1);
        check.dueLast("a copy", x, 0, 0, 0);
        x.control(0x0a3f);
        State.set(x, 2, 16383, Long.MIN_VALUE + 1L);
        x.again(2, 1);
        check.dueLast("an again", x, 32, 0, 1);
        x.make(0, true, 9, 0, 0, 0, 0, false);
        check.dueLast("x = 0", x, 0, 0, 0);
    }

    private static void beforeItWasMultiplied(Check check) {
        TemporaryReals x = new TemporaryReals();
        x.control(0x0300);
        x.make(0, false, 20000, 0, 0, 0, 1, false);
        check.dueLast("too great, exact", x, 8, 20000, 0);
        x.make(0, false, -20000, 0, 0, 0, 1, false);
        check.dueLast("too small, exact", x, 16, -20000, 0);
        x.control(0x0f00);
        x.make(0, true, 20000, 1, 0, 0, 1, false);
        check.dueLast("too great, lesser", x, 40, 20096, -1);
        x.control(0x0700);
        x.make(0, true, -20000, 1, 0, 0, 1, false);
        check.dueLast("too small, greater", x, 48, -19904, 1);
    }

    private static void otherCallsLeaveIt(Check check) {
        TemporaryReals x = new TemporaryReals();
        x.make(0, false, 3, 1, 0, 0, 1, false);
        x.control(0x0c3f);
        x.set(0, 5, 5, 5);
        x.part(0, 3);
        x.compare(0, 1);
        x.neighbour(0, true, 2);
        x.last(1);
        check.dueLast("a make before other calls", x, 32, 99, -1);
    }

    private static void refused(Check check) {
        TemporaryReals x = State.filled();
        int[] whats = {-1, 3, Integer.MIN_VALUE, Integer.MAX_VALUE};
        for (int what : whats) {
            State.dueRefused(check, "last(" + what + ")", IllegalArgumentException.class, x, () -> x.last(what));
        }
    }
}
