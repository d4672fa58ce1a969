/** Promise 5: answers worked out by hand from the document; MakeModelTest goes wide. */
public final class MakeTest {
    private static final long HALF = Long.MIN_VALUE;

    public static void main(String[] args) {
        Check check = new Check();
        zeros(check);
        everyBitOfTheSize(check);
        ordinary(check);
        small(check);
        smallNotMasked(check);
        great(check);
        greatNotMasked(check);
        refused(check);
        check.end();
    }

    private static void dueMade(Check check, TemporaryReals x, int told, int top, long fraction, int k, int change) {
        String what = "told " + told + " top " + top;
        check.duePattern(what, x, 1, top, fraction);
        check.dueLast(what, x, told, k, change);
    }

    private static void zeros(Check check) {
        TemporaryReals x = State.filled();
        int[] es = {-33000, 0, 33000};
        for (int e : es) {
            check.due("x = 0", x.make(1, false, e, 0, 0, 0, 0, false), 0);
            dueMade(check, x, 0, 0, 0L, 0, 0);
            check.due("x = 0", x.make(1, true, e, 0, 0, 0, 0, false), 0);
            dueMade(check, x, 0, 0x8000, 0L, 0, 0);
        }
    }

    /** One digit alone is exact wherever it stands, so its place shows that a, b, c, d and l are read in order. */
    private static void everyBitOfTheSize(Check check) {
        for (int bit = 0; bit < 128; bit++) {
            TemporaryReals x = new TemporaryReals();
            int[] g = new int[4];
            g[3 - bit / 32] = 1 << bit % 32;
            check.due("bit " + bit, x.make(1, bit % 2 == 1, 7, g[0], g[1], g[2], g[3], false), 0);
            dueMade(check, x, 0, (bit % 2 == 1 ? 0x8000 : 0) + bit + 7 + 16383, HALF, bit + 7, 0);
            check.due("bit " + bit + " and l", x.make(1, false, 7, g[0], g[1], g[2], g[3], true), bit > 62 ? 32 : 0);
            check.due("bit " + bit + " and l", x.last(1), bit + 7);
            check.due("bit " + bit + " and l", x.last(2), bit > 62 ? -1 : 0);
        }
        TemporaryReals x = new TemporaryReals();
        check.due("l alone", x.make(1, false, 7, 0, 0, 0, 0, true), 0);
        dueMade(check, x, 0, 6 + 16383, HALF, 6, 0);
    }

    private static void ordinary(Check check) {
        TemporaryReals x = new TemporaryReals();
        check.due("5.5 / 8", x.make(1, true, -3, 0, 0, 0, 5, true), 0);
        dueMade(check, x, 0, 0x8000 + 16382, 0xb000000000000000L, -1, 0);
        check.due("a carry out of the first digit", x.make(1, false, 0, 0, 0, -1, -1, true), 32);
        dueMade(check, x, 32, 64 + 16383, HALF, 63, 1);
        x.control(0x003f);
        check.due("24 digits, a tie to the even", x.make(1, false, 0, 0, 0, 0, 0x01000001, false), 32);
        dueMade(check, x, 32, 24 + 16383, HALF, 24, -1);
        check.due("24 digits, a tie and l", x.make(1, false, 0, 0, 0, 0, 0x01000001, true), 32);
        dueMade(check, x, 32, 24 + 16383, 0x8000010000000000L, 24, 1);
        x.control(0x023f);
        check.due("53 digits carry", x.make(1, false, 0, 0, 0, 0x3fffff, -1, false), 32);
        dueMade(check, x, 32, 54 + 16383, HALF, 53, 1);
    }

    private static void small(Check check) {
        TemporaryReals x = new TemporaryReals();
        check.due("the least DENORMAL", x.make(1, true, -16445, 0, 0, 0, 1, false), 0);
        dueMade(check, x, 0, 0x8000, 1L, -16445, 0);
        check.due("half of it", x.make(1, true, -16446, 0, 0, 0, 1, false), 48);
        dueMade(check, x, 48, 0x8000, 0L, -16446, -1);
        check.due("more than half of it", x.make(1, true, -16446, 0, 0, 0, 1, true), 48);
        dueMade(check, x, 48, 0x8000, 1L, -16446, 1);
        check.due("a quarter of it and more", x.make(1, false, -16447, 0, 0, 0, 1, true), 48);
        dueMade(check, x, 48, 0, 0L, -16447, -1);
        check.due("the least size", x.make(1, false, -33000, 0, 0, 0, 0, true), 48);
        dueMade(check, x, 48, 0, 0L, -33001, -1);
        check.due("up to 2^-16382", x.make(1, false, -16446, 0, 0, -1, -1, false), 48);
        dueMade(check, x, 48, 1, HALF, -16383, 1);
        check.due("2^-16382 itself", x.make(1, false, -16382, 0, 0, 0, 1, false), 0);
        dueMade(check, x, 0, 1, HALF, -16382, 0);
        x.control(0x0b3f);
        check.due("the least size up", x.make(1, false, -33000, 0, 0, 0, 0, true), 48);
        dueMade(check, x, 48, 0, 1L, -33001, 1);
        x.control(0x083f);
        check.due("the least size up, 24 digits", x.make(1, false, -33000, 0, 0, 0, 0, true), 48);
        dueMade(check, x, 48, 0, 1L << 40, -33001, 1);
        x.control(0x063f);
        check.due("the least size down, 53 digits", x.make(1, true, -33000, 0, 0, 0, 0, true), 48);
        dueMade(check, x, 48, 0x8000, 1L << 11, -33001, 1);
        check.due("one unit of 53 digits", x.make(1, true, -16434, 0, 0, 0, 1, false), 0);
        dueMade(check, x, 0, 0x8000, 1L << 11, -16434, 0);
    }

    private static void smallNotMasked(Check check) {
        TemporaryReals x = new TemporaryReals();
        x.control(0x03ef);
        check.due("an exact one", x.make(1, false, -16383, 0, 0, 0, 1, false), 16);
        dueMade(check, x, 16, -16383 + 24576 + 16383, HALF, -16383, 0);
        check.due("y reaches 2^-16382", x.make(1, false, -16446, 0, 0, -1, -1, true), 48);
        dueMade(check, x, 48, -16382 + 24576 + 16383, HALF, -16383, 1);
        check.due("the least size", x.make(1, true, -33000, 0, 0, 0, 0, true), 16);
        dueMade(check, x, 16, 0x8000 - 33001 + 24576 + 16383, HALF, -33001, 0);
        check.due("2^-16382 is not too small", x.make(1, false, -16382, 0, 0, 0, 1, false), 0);
    }

    private static void great(Check check) {
        TemporaryReals x = new TemporaryReals();
        check.due("the greatest real", x.make(1, false, 16320, 0, 0, -1, -1, false), 0);
        dueMade(check, x, 0, 32766, -1L, 16383, 0);
        check.due("half a unit more", x.make(1, false, 16320, 0, 0, -1, -1, true), 40);
        dueMade(check, x, 40, 32767, HALF, 16383, 1);
        x.control(0x0f3f);
        check.due("half a unit more towards 0", x.make(1, false, 16320, 0, 0, -1, -1, true), 32);
        dueMade(check, x, 32, 32766, -1L, 16383, -1);
        int[] precisions = {0, 1, 2, 3};
        long[] greatest = {-1L << 40, -1L, -1L << 11, -1L};
        for (int i = 0; i < 4; i++) {
            for (int rounding = 0; rounding < 4; rounding++) {
                x.control(0x003f | precisions[i] << 8 | rounding << 10);
                check.due("too great", x.make(1, false, 33000, 1, 2, 3, 4, true), 40);
                boolean infinite = rounding == 0 || rounding == 2;
                dueMade(check, x, 40, infinite ? 32767 : 32766, infinite ? HALF : greatest[i], 33096,
                        infinite ? 1 : -1);
                check.due("too great with the sign -", x.make(1, true, 16384, 0, 0, 0, 1, false), 40);
                infinite = rounding == 0 || rounding == 1;
                dueMade(check, x, 40, 0x8000 + (infinite ? 32767 : 32766), infinite ? HALF : greatest[i], 16384,
                        infinite ? 1 : -1);
            }
        }
    }

    private static void greatNotMasked(Check check) {
        TemporaryReals x = new TemporaryReals();
        x.control(0x03f7);
        check.due("2^16384", x.make(1, true, 16384, 0, 0, 0, 1, false), 8);
        dueMade(check, x, 8, 0x8000 + 16384 - 24576 + 16383, HALF, 16384, 0);
        check.due("y reaches 2^16384", x.make(1, false, 16320, 0, 0, -1, -1, true), 40);
        dueMade(check, x, 40, 16384 - 24576 + 16383, HALF, 16383, 1);
        check.due("the greatest size", x.make(1, false, 33000, -1, -1, -1, -1, true), 40);
        dueMade(check, x, 40, 33128 - 24576 + 16383, HALF, 33127, 1);
        x.control(0x0ff7);
        check.due("the greatest size towards 0", x.make(1, false, 33000, -1, -1, -1, -1, true), 40);
        dueMade(check, x, 40, 33127 - 24576 + 16383, -1L, 33127, -1);
    }

    private static void refused(Check check) {
        int[] registers = {-1, 8, Integer.MIN_VALUE, Integer.MAX_VALUE};
        int[] es = {-33001, 33001, Integer.MIN_VALUE, Integer.MAX_VALUE};
        for (int i = 0; i < 4; i++) {
            TemporaryReals x = State.filled();
            int r = registers[i];
            int e = es[i];
            State.dueRefused(check, "make in " + r, IndexOutOfBoundsException.class, x,
                    () -> x.make(r, false, 0, 0, 0, 0, 1, false));
            State.dueRefused(check, "make with e = " + e, IllegalArgumentException.class, x,
                    () -> x.make(0, false, e, 0, 0, 0, 1, false));
            State.dueRefused(check, "make 0 with e = " + e, IllegalArgumentException.class, x,
                    () -> x.make(0, false, e, 0, 0, 0, 0, false));
            State.dueRefused(check, "make in " + r + " with e = " + e, IndexOutOfBoundsException.class, x,
                    () -> x.make(r, false, e, 0, 0, 0, 1, false));
        }
    }
}
