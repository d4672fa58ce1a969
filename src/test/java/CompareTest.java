import java.util.List;

/** Promise 8: by hand, then every edge and many others against the model. */
public final class CompareTest {
    public static void main(String[] args) {
        Check check = new Check();
        byHand(check);
        edges(check);
        others(check);
        registersApart(check);
        refused(check);
        check.end();
    }

    private static void dueCompared(Check check, int topA, long fractionA, int topB, long fractionB, int want) {
        TemporaryReals x = new TemporaryReals();
        State.set(x, 6, topA, fractionA);
        State.set(x, 1, topB, fractionB);
        String what = topA + " " + fractionA + " with " + topB + " " + fractionB;
        check.due(what, x.compare(6, 1), want);
        check.due(what + ", turned", x.compare(1, 6), want == 2 ? 2 : -want);
        check.duePattern(what + ": a is kept", x, 6, topA, fractionA);
        check.duePattern(what + ": b is kept", x, 1, topB, fractionB);
    }

    private static void byHand(Check check) {
        long half = Long.MIN_VALUE;
        dueCompared(check, 16383, half, 16384, half, -1);
        dueCompared(check, 0x8000 + 16383, half, 0x8000 + 16384, half, 1);
        dueCompared(check, 0x8000 + 16383, half, 16383, half, -1);
        dueCompared(check, 16383, -1L, 16383, half, 1);
        dueCompared(check, 0, 0L, 0x8000, 0L, 0);
        dueCompared(check, 0x8000 + 500, 0L, 32766, 0L, 0);
        dueCompared(check, 32766, 0L, 0, 1L, -1);
        dueCompared(check, 0x8000, 1L, 77, 0L, -1);
        dueCompared(check, 100, 1L << 62, 99, half, 0);
        dueCompared(check, 0, half, 1, half, 0);
        dueCompared(check, 0, 5L, 1, 5L, 0);
        dueCompared(check, 0, -1L, 2, half, -1);
        dueCompared(check, 0x7fff, 0L, 0x7fff, half, 0);
        dueCompared(check, 0x7fff, 0L, 0x7ffe, -1L, 1);
        dueCompared(check, 0xffff, 0L, 0xfffe, -1L, -1);
        dueCompared(check, 0xffff, half, 0x7fff, 0L, -1);
        dueCompared(check, 0x7fff, 1L, 0x7fff, 1L, 2);
        dueCompared(check, 0xffff, -1L, 0x7fff, half, 2);
        dueCompared(check, 0x7fff, Long.MAX_VALUE, 0, 0L, 2);
    }

    private static void edges(Check check) {
        List<Patterns.Pattern> all = Patterns.edges();
        for (int i = 0; i < all.size(); i++) {
            for (int j = i % 13; j < all.size(); j += 13) {
                dueAsModel(check, all.get(i), all.get(j));
            }
        }
    }

    private static void others(Check check) {
        Patterns stream = new Patterns(8);
        for (int i = 0; i < 4000; i++) {
            Patterns.Pattern a = stream.pattern();
            dueAsModel(check, a, stream.pattern());
            // The same number, or one close by, in another form.
            int shift = stream.below(70);
            int power = Math.min((a.top() & 0x7fff) + shift, 32766);
            long moved = shift > 63 ? 0L : a.fraction() >>> shift;
            dueAsModel(check, a, new Patterns.Pattern(a.top() & 0x8000 | power, moved));
        }
    }

    private static void dueAsModel(Check check, Patterns.Pattern a, Patterns.Pattern b) {
        TemporaryReals x = new TemporaryReals();
        State.set(x, 0, a.top(), a.fraction());
        State.set(x, 1, b.top(), b.fraction());
        check.due(a + " with " + b, x.compare(0, 1), Model.compare(a.top(), a.fraction(), b.top(), b.fraction()));
    }

    private static void registersApart(Check check) {
        TemporaryReals x = new TemporaryReals();
        for (int r = 0; r < 8; r++) {
            State.set(x, r, 16383 + r, Long.MIN_VALUE);
        }
        for (int a = 0; a < 8; a++) {
            for (int b = 0; b < 8; b++) {
                check.due("registers " + a + " and " + b, x.compare(a, b), Integer.compare(a, b));
            }
        }
    }

    private static void refused(Check check) {
        int[] registers = {-1, 8, Integer.MIN_VALUE, Integer.MAX_VALUE};
        for (int r : registers) {
            TemporaryReals x = State.filled();
            State.dueRefused(check, "compare(" + r + ", 0)", IndexOutOfBoundsException.class, x, () -> x.compare(r, 0));
            State.dueRefused(check, "compare(0, " + r + ")", IndexOutOfBoundsException.class, x, () -> x.compare(0, r));
            State.dueRefused(check, "compare(r, r)", IndexOutOfBoundsException.class, x, () -> x.compare(r, r));
        }
    }
}
