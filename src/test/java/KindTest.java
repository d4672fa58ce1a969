/** Section "Terms": the kinds at their edges, and the size of a real. */
public final class KindTest {
    private static final int[] POWERS = {1, 2, 16383, 32765, 32766};
    private static final long HIGHEST = Long.MIN_VALUE;

    public static void main(String[] args) {
        Check check = new Check();
        zero(check);
        denormal(check);
        unnormal(check);
        normal(check);
        infinite(check);
        noNumber(check);
        everyPower(check);
        sizeOfPowerZero(check);
        sizeByPower(check);
        sizeIsFractionTimesPower(check);
        check.end();
    }

    private static void dueKind(Check check, int power, long fraction, int kind) {
        TemporaryReals x = new TemporaryReals();
        State.set(x, 2, power, fraction);
        State.set(x, 3, power | 0x8000, fraction);
        check.due("kind of " + power + " " + fraction, x.part(2, 3), kind);
        check.due("kind of it with the sign -", x.part(3, 3), kind);
    }

    private static void zero(Check check) {
        check.by("0 ZERO (p and f are 0)");
        dueKind(check, 0, 0L, 0);
    }

    private static void denormal(Check check) {
        check.by("1 DENORMAL (p is 0, f is not)");
        for (int bit = 0; bit < 64; bit++) {
            dueKind(check, 0, 1L << bit, 1);
            dueKind(check, 0, HIGHEST | 1L << bit, 1);
        }
        dueKind(check, 0, Long.MAX_VALUE, 1);
        dueKind(check, 0, -1L, 1);
    }

    private static void unnormal(Check check) {
        check.by("2 UNNORMAL (p is 1 .. 32766, the highest bit of f is 0; f may be 0)");
        for (int p : POWERS) {
            dueKind(check, p, 0L, 2);
            dueKind(check, p, Long.MAX_VALUE, 2);
            for (int bit = 0; bit < 63; bit++) {
                dueKind(check, p, 1L << bit, 2);
            }
        }
    }

    private static void normal(Check check) {
        check.by("3 NORMAL (p is 1 .. 32766, the highest bit of f is 1)");
        for (int p : POWERS) {
            dueKind(check, p, -1L, 3);
            for (int bit = 0; bit < 64; bit++) {
                dueKind(check, p, HIGHEST | 1L << bit, 3);
            }
        }
    }

    private static void infinite(Check check) {
        check.by("4 INFINITE (p is 32767, the lower 63 bits of f are 0, the highest is no matter)");
        dueKind(check, 32767, 0L, 4);
        dueKind(check, 32767, HIGHEST, 4);
    }

    private static void noNumber(Check check) {
        check.by("5 NO NUMBER (p is 32767, others)");
        for (int bit = 0; bit < 63; bit++) {
            dueKind(check, 32767, 1L << bit, 5);
            dueKind(check, 32767, HIGHEST | 1L << bit, 5);
        }
        dueKind(check, 32767, Long.MAX_VALUE, 5);
        dueKind(check, 32767, -1L, 5);
    }

    private static void everyPower(Check check) {
        check.by("A REAL has a SIGN, a POWER p of 15 bits, and a FRACTION f of 64 bits. ITS KIND");
        for (int p = 0; p < 32768; p++) {
            dueKind(check, p, 0L, p == 0 ? 0 : p == 32767 ? 4 : 2);
            dueKind(check, p, HIGHEST, p == 0 ? 1 : p == 32767 ? 4 : 3);
            dueKind(check, p, 1L, p == 0 ? 1 : p == 32767 ? 5 : 2);
        }
    }

    private static void sizeOfPowerZero(Check check) {
        check.by("for p = 0 as for p = 1");
        for (int bit = 0; bit < 64; bit++) {
            for (int sign = 0; sign <= 0x8000; sign += 0x8000) {
                dueSamePlace(check, sign, 1L << bit);
                dueSamePlace(check, sign, -1L << bit);
                dueSamePlace(check, sign, -1L >>> bit);
            }
        }
        dueSamePlace(check, 0, 0L);
        dueSamePlace(check, 0x8000, 0L);
    }

    /** With the power 0 and 1 a fraction must be the same number to every call that reads a size. */
    private static void dueSamePlace(Check check, int sign, long fraction) {
        TemporaryReals x = new TemporaryReals();
        State.set(x, 0, sign, fraction);
        State.set(x, 1, sign | 1, fraction);
        String what = "sign " + sign + " fraction " + fraction + " with the powers 0 and 1";
        check.due(what, x.compare(0, 1), 0);
        check.due(what + " turned", x.compare(1, 0), 0);
        x.again(0, 2);
        int k = x.last(1);
        x.again(1, 3);
        check.due(what + ": k", x.last(1), k);
        check.due(what + ": k by the digits", k, fraction == 0L ? 0 : -16382 - Long.numberOfLeadingZeros(fraction));
        dueSamePattern(check, what + ": again", x, 2, 3);
        x.neighbour(0, true, 2);
        x.neighbour(1, true, 3);
        dueSamePattern(check, what + ": neighbour up", x, 2, 3);
        x.neighbour(0, false, 2);
        x.neighbour(1, false, 3);
        dueSamePattern(check, what + ": neighbour down", x, 2, 3);
    }

    private static void dueSamePattern(Check check, String what, TemporaryReals x, int a, int b) {
        for (int part = 0; part < 3; part++) {
            check.due(what + ", part " + part, x.part(a, part), x.part(b, part));
        }
    }

    private static void sizeByPower(Check check) {
        check.by("THE SIZE of one of the first four kinds is f times 2^(p - 16446): one more of p doubles it");
        int[] powers = {0, 1, 2, 16382, 16383, 32764, 32765};
        for (int p : powers) {
            for (int bit = 1; bit < 64; bit++) {
                TemporaryReals x = new TemporaryReals();
                State.set(x, 0, p, 1L << bit);
                State.set(x, 1, Math.max(p, 1) + 1, 1L << (bit - 1));
                State.set(x, 2, Math.max(p, 1) + 1, 1L << bit);
                check.due("power " + p + " bit " + bit + " with half the fraction", x.compare(0, 1), 0);
                check.due("power " + p + " bit " + bit + " with the same fraction", x.compare(0, 2), -1);
            }
        }
    }

    private static void sizeIsFractionTimesPower(Check check) {
        check.by("THE SIZE of one of the first four kinds is f times 2^(p - 16446): made by that word");
        int[] powers = {0, 1, 2, 63, 64, 65, 16383, 32765, 32766};
        long[] fractions = {0L, 1L, 0x123456789abcdefL, Long.MAX_VALUE, HIGHEST, HIGHEST + 1L, -1L};
        for (int p : powers) {
            for (long f : fractions) {
                TemporaryReals x = new TemporaryReals();
                State.set(x, 0, p, f);
                check.due("made", x.make(1, false, Math.max(p, 1) - 16446, 0, 0, (int) (f >>> 32), (int) f, false), 0);
                check.due("made as the size of " + p + " " + f, x.compare(0, 1), 0);
            }
        }
    }
}
