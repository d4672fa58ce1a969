/** Promise 7: what was told, k, and how the answer lies to x, of the last make() or again() alone. */
public final class LastTest {
    private static final long HIGHEST = Long.MIN_VALUE;

    public static void main(String[] args) {
        Check check = new Check();
        ofTheLast(check);
        kOfZero(check);
        kOfCopy(check);
        kIsThatOfX(check);
        bySize(check);
        beforeItWasMultiplied(check);
        infiniteIsGreater(check);
        otherCallsLeaveIt(check);
        refusedCallsLeaveIt(check);
        noSuchPart(check);
        check.end();
    }

    /** A make() whose three answers are all other than 0. */
    private static TemporaryReals told() {
        TemporaryReals x = new TemporaryReals();
        x.make(0, false, 3, 1, 0, 0, 1, false);
        return x;
    }

    private static void ofTheLast(Check check) {
        check.by("Of the last make() or again()");
        TemporaryReals x = told();
        check.dueLast("a make", x, 32, 99, -1);
        x.make(0, false, 3, 0, 0, 0, 1, false);
        check.dueLast("an exact make", x, 0, 3, 0);
        x.control(0x0a3f);
        State.set(x, 2, 16385, HIGHEST + 1L);
        x.again(2, 1);
        check.dueLast("an again", x, 32, 2, 1);
        x.again(1, 1);
        check.dueLast("an exact again", x, 0, 2, 0);
        x.make(5, true, -16390, 0, 0, 0, 1, false);
        check.dueLast("a make of another register", x, 0, -16390, 0);
    }

    private static void kOfZero(Check check) {
        check.by("1 k (0 for x = 0");
        TemporaryReals x = told();
        x.make(0, true, 9, 0, 0, 0, 0, false);
        check.dueLast("make of 0", x, 0, 0, 0);
        int[] tops = {0, 1, 32766, 0x8000, 0xfffe};
        for (int top : tops) {
            x = told();
            State.set(x, 3, top, 0L);
            x.again(3, 4);
            check.dueLast("again of a zero of top " + top, x, 0, 0, 0);
        }
    }

    private static void kOfCopy(Check check) {
        check.by("or a copy)");
        long[] fractions = {0L, HIGHEST, 1L, -1L};
        for (long fraction : fractions) {
            for (int top = 0x7fff; top <= 0xffff; top += 0x8000) {
                TemporaryReals x = told();
                State.set(x, 3, top, fraction);
                x.again(3, 4);
                check.dueLast("a copy of " + top + " " + fraction, x, 0, 0, 0);
            }
        }
    }

    private static void kIsThatOfX(Check check) {
        check.by("1 k: 2^k <= x < 2^(k + 1), whatever is answered");
        TemporaryReals x = new TemporaryReals();
        x.make(0, false, 0, 0, 0, -1, -1, true);
        check.due("k when y is 2^(k + 1)", x.last(1), 63);
        x.make(0, false, -33000, 0, 0, 0, 0, true);
        check.due("k when the answer is ZERO", x.last(1), -33001);
        x.make(0, false, 33000, -1, -1, -1, -1, true);
        check.due("k when the answer is infinite", x.last(1), 33127);
        x.make(0, false, 0, 0, 0, 0, 0, true);
        check.due("k of a half", x.last(1), -1);
        x.make(0, false, 0, 0, 0, 0, 1, true);
        check.due("k of one and a half", x.last(1), 0);
        State.set(x, 1, 0, 1L);
        x.again(1, 2);
        check.due("k of the least DENORMAL", x.last(1), -16445);
    }

    private static void bySize(Check check) {
        check.by("2 whether the answer is of a greater size than x (1), of a lesser (-1), or the same (0");
        TemporaryReals x = new TemporaryReals();
        for (int sign = 0; sign < 2; sign++) {
            x.control(sign == 0 ? 0x0b3f : 0x073f);
            x.make(0, sign == 1, 0, 0, 1, 0, 1, true);
            check.due("away from 0, sign " + sign, x.last(2), 1);
            x.control(sign == 0 ? 0x073f : 0x0b3f);
            x.make(0, sign == 1, 0, 0, 1, 0, 1, true);
            check.due("towards 0, sign " + sign, x.last(2), -1);
            x.make(0, sign == 1, 0, 0, 0, 0, 1, true);
            check.due("the same, sign " + sign, x.last(2), 0);
        }
        x.control(0x073f);
        x.make(0, false, -33000, 0, 0, 0, 1, false);
        check.due("ZERO is lesser", x.last(2), -1);
        x.make(0, false, 20000, 0, 0, 0, 1, false);
        check.due("the greatest real is lesser", x.last(2), -1);
    }

    private static void beforeItWasMultiplied(Check check) {
        check.by("(before it was multiplied)");
        for (int sign = 0; sign < 2; sign++) {
            TemporaryReals x = new TemporaryReals();
            x.control(0x0300);
            x.make(0, sign == 1, 20000, 0, 0, 0, 1, false);
            check.dueLast("too great, exact", x, 8, 20000, 0);
            x.make(0, sign == 1, -20000, 0, 0, 0, 1, false);
            check.dueLast("too small, exact", x, 16, -20000, 0);
            x.control(0x0f00);
            x.make(0, sign == 1, 20000, 1, 0, 0, 1, false);
            check.dueLast("too great, lesser", x, 40, 20096, -1);
            x.make(0, sign == 1, -20000, 1, 0, 0, 1, false);
            check.dueLast("too small, lesser", x, 48, -19904, -1);
            x.control(sign == 0 ? 0x0b00 : 0x0700);
            x.make(0, sign == 1, 20000, 1, 0, 0, 1, false);
            check.dueLast("too great, greater", x, 40, 20096, 1);
            x.make(0, sign == 1, -20000, 1, 0, 0, 1, false);
            check.dueLast("too small, greater", x, 48, -19904, 1);
        }
    }

    private static void infiniteIsGreater(Check check) {
        check.by("infinite is greater");
        for (int sign = 0; sign < 2; sign++) {
            TemporaryReals x = new TemporaryReals();
            x.make(0, sign == 1, 16384, 0, 0, 0, 1, false);
            check.dueLast("2^16384", x, 40, 16384, 1);
            x.make(0, sign == 1, 33000, 1, 2, 3, 4, true);
            check.dueLast("far beyond", x, 40, 33096, 1);
            x.make(0, sign == 1, 16384, 0x80000000, 0, 0, 1, false);
            check.dueLast("where y is lesser than x", x, 40, 16511, 1);
            x.control(0x003f);
            State.set(x, 1, 32766 + sign * 0x8000, -1L);
            x.again(1, 2);
            check.dueLast("reached by again()", x, 40, 16383, 1);
        }
    }

    private static void otherCallsLeaveIt(Check check) {
        check.by("Of the last make() or again(): no other call changes it");
        TemporaryReals x = told();
        x.control(0x0c3f);
        check.dueLast("after control", x, 32, 99, -1);
        x.set(0, 5, 5, 5);
        check.dueLast("after set", x, 32, 99, -1);
        x.part(0, 3);
        check.dueLast("after part", x, 32, 99, -1);
        x.compare(0, 1);
        check.dueLast("after compare", x, 32, 99, -1);
        x.neighbour(0, true, 2);
        check.dueLast("after neighbour", x, 32, 99, -1);
        x.set(0, 0x7fff, 1, 1);
        x.neighbour(0, true, 2);
        check.dueLast("after neighbour of no number", x, 32, 99, -1);
    }

    private static void refusedCallsLeaveIt(Check check) {
        check.by("A call that throws changes nothing: neither what last() answers");
        TemporaryReals x = told();
        check.dueThrows("make", IllegalArgumentException.class, () -> x.make(0, true, 33001, 0, 0, 0, 7, true));
        check.dueLast("after a refused make", x, 32, 99, -1);
        check.dueThrows("again", IndexOutOfBoundsException.class, () -> x.again(0, 8));
        check.dueLast("after a refused again", x, 32, 99, -1);
    }

    private static void noSuchPart(Check check) {
        check.by("IllegalArgumentException when what is none of these");
        int[] whats = {-1, 3, 4, 5, 256, Integer.MIN_VALUE, Integer.MAX_VALUE};
        for (int what : whats) {
            State.dueRefused(check, "last(" + what + ")", IllegalArgumentException.class, x -> x.last(what));
        }
    }
}
