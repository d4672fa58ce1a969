import java.math.BigInteger;

/**
 * Promise 5: how the arguments are read and which are refused, and some answers worked out by hand. RoundingTest,
 * TooSmallTest and TooGreatTest have the edges of TO MAKE, MakeModelTest goes wide.
 */
public final class MakeTest {
    private static final long HIGHEST = Long.MIN_VALUE;

    public static void main(String[] args) {
        Check check = new Check();
        everyBitOfTheSize(check);
        ordinary(check);
        everyRegister(check);
        leastE(check);
        greatestE(check);
        noSuchRegister(check);
        eBeyond(check);
        noSuchRegisterIsNamedFirst(check);
        check.end();
    }

    private static void dueMade(Check check, TemporaryReals x, int told, int top, long fraction, int k, int change) {
        String what = "told " + told + " top " + top;
        check.duePattern(what, x, 1, top, fraction);
        check.dueLast(what, x, told, k, change);
    }

    /** One digit alone is exact wherever it stands, so its place shows that a, b, c, d and l are read in order. */
    private static void everyBitOfTheSize(Check check) {
        check.by("g with the bits of a (the highest), b, c, d, l, and e");
        for (int bit = 0; bit < 128; bit++) {
            TemporaryReals x = new TemporaryReals();
            int[] g = new int[4];
            g[3 - bit / 32] = 1 << bit % 32;
            check.due("bit " + bit, x.make(1, bit % 2 == 1, 7, g[0], g[1], g[2], g[3], false), 0);
            dueMade(check, x, 0, (bit % 2 == 1 ? 0x8000 : 0) + bit + 7 + 16383, HIGHEST, bit + 7, 0);
            check.due("bit " + bit + " and l", x.make(1, false, 7, g[0], g[1], g[2], g[3], true), bit > 62 ? 32 : 0);
            check.due("bit " + bit + " and l", x.last(1), bit + 7);
            check.due("bit " + bit + " and l", x.last(2), bit > 62 ? -1 : 0);
        }
        TemporaryReals x = new TemporaryReals();
        check.due("l alone", x.make(1, false, 7, 0, 0, 0, 0, true), 0);
        dueMade(check, x, 0, 6 + 16383, HIGHEST, 6, 0);
    }

    private static void ordinary(Check check) {
        check.by("Makes a real in a register .. answers what is told");
        TemporaryReals x = new TemporaryReals();
        check.due("5.5 / 8", x.make(1, true, -3, 0, 0, 0, 5, true), 0);
        dueMade(check, x, 0, 0x8000 + 16382, 0xb000000000000000L, -1, 0);
        check.due("a carry out of the first digit", x.make(1, false, 0, 0, 0, -1, -1, true), 32);
        dueMade(check, x, 32, 64 + 16383, HIGHEST, 63, 1);
        x.control(0x003f);
        check.due("24 digits, a tie to the even", x.make(1, false, 0, 0, 0, 0, 0x01000001, false), 32);
        dueMade(check, x, 32, 24 + 16383, HIGHEST, 24, -1);
        check.due("24 digits, a tie and l", x.make(1, false, 0, 0, 0, 0, 0x01000001, true), 32);
        dueMade(check, x, 32, 24 + 16383, 0x8000010000000000L, 24, 1);
        x.control(0x023f);
        check.due("53 digits carry", x.make(1, false, 0, 0, 0, 0x3fffff, -1, false), 32);
        dueMade(check, x, 32, 54 + 16383, HIGHEST, 53, 1);
        x.control(0x03ff);
        check.due("the least DENORMAL", x.make(1, true, -16445, 0, 0, 0, 1, false), 0);
        dueMade(check, x, 0, 0x8000, 1L, -16445, 0);
        check.due("half of it", x.make(1, true, -16446, 0, 0, 0, 1, false), 48);
        dueMade(check, x, 48, 0x8000, 0L, -16446, -1);
        check.due("the greatest real", x.make(1, false, 16320, 0, 0, -1, -1, false), 0);
        dueMade(check, x, 0, 32766, -1L, 16383, 0);
        check.due("half a unit more", x.make(1, false, 16320, 0, 0, -1, -1, true), 40);
        dueMade(check, x, 40, 32767, HIGHEST, 16383, 1);
    }

    private static void everyRegister(Check check) {
        check.by("in a register: in that one alone");
        for (int r = 0; r < 8; r++) {
            TemporaryReals x = State.filled();
            TemporaryReals twin = State.filled();
            x.make(r, false, 0, 0, 0, 0, 3, false);
            check.duePattern("3 in register " + r, x, r, 16384, 0xc000000000000000L);
            State.dueKeepsOthers(check, "make in " + r, x, twin, r);
            check.dueTrue("make keeps the control", State.control(x).equals(State.control(twin)));
        }
    }

    private static void leastE(Check check) {
        check.by("e is not -33000 .. 33000: -33000 is");
        TemporaryReals x = new TemporaryReals();
        check.due("the least size", x.make(1, false, -33000, 0, 0, 0, 0, true), 48);
        dueMade(check, x, 48, 0, 0L, -33001, -1);
        x.control(0x0b3f);
        check.due("the least size up", x.make(1, false, -33000, 0, 0, 0, 0, true), 48);
        dueMade(check, x, 48, 0, 1L, -33001, 1);
        x.control(0x083f);
        check.due("the least size up, 24 digits", x.make(1, false, -33000, 0, 0, 0, 0, true), 48);
        dueMade(check, x, 48, 0, 1L << 40, -33001, 1);
        x.control(0x0300);
        check.due("the least size, UNDER not masked", x.make(1, true, -33000, 0, 0, 0, 0, true), 16);
        dueMade(check, x, 16, 0x8000 - 33001 + 24576 + 16383, HIGHEST, -33001, 0);
        check.due("the greatest g", State.make(x, 1, false, BigInteger.ONE.shiftLeft(129).subtract(BigInteger.ONE),
                -33000), 48);
        dueMade(check, x, 48, -32872 + 24576 + 16383, HIGHEST, -32873, 1);
        check.due("0", x.make(1, true, -33000, 0, 0, 0, 0, false), 0);
        dueMade(check, x, 0, 0x8000, 0L, 0, 0);
    }

    private static void greatestE(Check check) {
        check.by("e is not -33000 .. 33000: 33000 is");
        TemporaryReals x = new TemporaryReals();
        check.due("the greatest size", x.make(1, false, 33000, -1, -1, -1, -1, true), 40);
        dueMade(check, x, 40, 32767, HIGHEST, 33127, 1);
        x.control(0x0300);
        check.due("the greatest size, OVER not masked", x.make(1, false, 33000, -1, -1, -1, -1, true), 40);
        dueMade(check, x, 40, 33128 - 24576 + 16383, HIGHEST, 33127, 1);
        x.control(0x0f00);
        check.due("the greatest size towards 0", x.make(1, false, 33000, -1, -1, -1, -1, true), 40);
        dueMade(check, x, 40, 33127 - 24576 + 16383, -1L, 33127, -1);
        check.due("l alone", x.make(1, true, 33000, 0, 0, 0, 0, true), 8);
        dueMade(check, x, 8, 0x8000 + 32999 - 24576 + 16383, HIGHEST, 32999, 0);
        check.due("0", x.make(1, false, 33000, 0, 0, 0, 0, false), 0);
        dueMade(check, x, 0, 0, 0L, 0, 0);
    }

    private static void noSuchRegister(Check check) {
        check.by("IndexOutOfBoundsException when there is no such register");
        int[] es = {-33000, 0, 33000};
        for (int r : State.NO_REGISTERS) {
            for (int e : es) {
                State.dueRefused(check, "make 1 in " + r, IndexOutOfBoundsException.class,
                        x -> x.make(r, false, e, 0, 0, 0, 1, false));
                State.dueRefused(check, "make 0 in " + r, IndexOutOfBoundsException.class,
                        x -> x.make(r, true, e, 0, 0, 0, 0, false));
            }
        }
    }

    private static final int[] BEYOND = {-33001, 33001, -33002, 33002, -65536, 65536, Integer.MIN_VALUE,
        Integer.MAX_VALUE};

    private static void eBeyond(Check check) {
        check.by("IllegalArgumentException when e is not -33000 .. 33000");
        for (int e : BEYOND) {
            for (int r = 0; r < 8; r++) {
                int register = r;
                State.dueRefused(check, "make 1 with e = " + e, IllegalArgumentException.class,
                        x -> x.make(register, false, e, 0, 0, 0, 1, false));
                State.dueRefused(check, "make 0 with e = " + e, IllegalArgumentException.class,
                        x -> x.make(register, true, e, 0, 0, 0, 0, false));
            }
        }
    }

    private static void noSuchRegisterIsNamedFirst(Check check) {
        check.by("where several exceptions that a call names fit, the one named first is thrown");
        for (int r : State.NO_REGISTERS) {
            for (int e : BEYOND) {
                State.dueRefused(check, "make in " + r + " with e = " + e, IndexOutOfBoundsException.class,
                        x -> x.make(r, false, e, 0, 0, 0, 1, false));
            }
        }
    }
}
