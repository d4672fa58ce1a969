/** Promise 9: by hand, then every edge and many others against the model. */
public final class NeighbourTest {
    private static final long HALF = Long.MIN_VALUE;

    public static void main(String[] args) {
        Check check = new Check();
        byHand(check);
        for (Patterns.Pattern pattern : Patterns.edges()) {
            dueAsModel(check, pattern);
        }
        Patterns stream = new Patterns(9);
        for (int i = 0; i < 6000; i++) {
            dueAsModel(check, stream.pattern());
        }
        controlIsNoMatter(check);
        intoItself(check);
        refused(check);
        check.end();
    }

    private static void dueNeighbour(Check check, int top, long fraction, boolean up, int wantTop, long wantFraction) {
        TemporaryReals x = new TemporaryReals();
        State.set(x, 2, top, fraction);
        x.neighbour(2, up, 7);
        String what = "neighbour of " + top + " " + fraction + (up ? " up" : " down");
        check.duePattern(what, x, 7, wantTop, wantFraction);
        check.duePattern(what + ": r is kept", x, 2, top, fraction);
    }

    private static void byHand(Check check) {
        dueNeighbour(check, 0, 0L, true, 0, 1L);
        dueNeighbour(check, 0, 0L, false, 0x8000, 1L);
        dueNeighbour(check, 0x8000, 0L, true, 0, 1L);
        dueNeighbour(check, 0x8000 + 500, 0L, false, 0x8000, 1L);
        dueNeighbour(check, 0, 1L, false, 0, 0L);
        dueNeighbour(check, 0x8000, 1L, true, 0x8000, 0L);
        dueNeighbour(check, 0x8001, 1L, true, 0x8000, 0L);
        dueNeighbour(check, 0, Long.MAX_VALUE, true, 1, HALF);
        dueNeighbour(check, 1, HALF, false, 0, Long.MAX_VALUE);
        dueNeighbour(check, 0, HALF, true, 1, HALF + 1L);
        dueNeighbour(check, 0, -1L, true, 2, HALF);
        dueNeighbour(check, 2, HALF, false, 1, -1L);
        dueNeighbour(check, 100, -1L, true, 101, HALF);
        dueNeighbour(check, 0x8000 + 100, -1L, false, 0x8000 + 101, HALF);
        dueNeighbour(check, 200, 1L, true, 137, HALF + 1L);
        dueNeighbour(check, 200, 1L, false, 136, -1L);
        dueNeighbour(check, 32766, -1L, true, 32767, HALF);
        dueNeighbour(check, 0xfffe, -1L, false, 0xffff, HALF);
        dueNeighbour(check, 32767, 0L, false, 32766, -1L);
        dueNeighbour(check, 32767, HALF, false, 32766, -1L);
        dueNeighbour(check, 0xffff, 0L, true, 0xfffe, -1L);
        dueNeighbour(check, 32767, 0L, true, 32767, 0L);
        dueNeighbour(check, 32767, HALF, true, 32767, HALF);
        dueNeighbour(check, 0xffff, 0L, false, 0xffff, 0L);
        dueNeighbour(check, 32767, 1L, true, 32767, 1L);
        dueNeighbour(check, 0xffff, -1L, false, 0xffff, -1L);
    }

    private static void dueAsModel(Check check, Patterns.Pattern pattern) {
        Model model = new Model();
        model.neighbour(pattern.top(), pattern.fraction(), true);
        dueNeighbour(check, pattern.top(), pattern.fraction(), true, model.top, model.fraction.longValue());
        model.neighbour(pattern.top(), pattern.fraction(), false);
        dueNeighbour(check, pattern.top(), pattern.fraction(), false, model.top, model.fraction.longValue());
    }

    private static void controlIsNoMatter(Check check) {
        for (int word = 0; word < 0x1000; word += 0x100) {
            TemporaryReals x = new TemporaryReals();
            x.control(word);
            State.set(x, 0, 0, 7L);
            x.neighbour(0, true, 1);
            check.duePattern("under control " + word, x, 1, 0, 8L);
            State.set(x, 0, 0x8000 + 16383, HALF);
            x.neighbour(0, false, 1);
            check.duePattern("under control " + word, x, 1, 0x8000 + 16383, HALF + 1L);
        }
    }

    private static void intoItself(Check check) {
        TemporaryReals x = new TemporaryReals();
        State.set(x, 4, 9, 1L << 62);
        x.neighbour(4, true, 4);
        check.duePattern("neighbour(4, true, 4)", x, 4, 8, HALF + 1L);
    }

    private static void refused(Check check) {
        int[] registers = {-1, 8, Integer.MIN_VALUE, Integer.MAX_VALUE};
        for (int r : registers) {
            TemporaryReals x = State.filled();
            State.dueRefused(check, "neighbour from " + r, IndexOutOfBoundsException.class, x,
                    () -> x.neighbour(r, true, 0));
            State.dueRefused(check, "neighbour to " + r, IndexOutOfBoundsException.class, x,
                    () -> x.neighbour(0, false, r));
            State.dueRefused(check, "neighbour from and to " + r, IndexOutOfBoundsException.class, x,
                    () -> x.neighbour(r, true, r));
        }
    }
}
