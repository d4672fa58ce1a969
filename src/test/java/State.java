/** All that can be seen of an object, to tell that a call changed nothing. */
final class State {
    private State() {
    }

    static void set(TemporaryReals x, int r, int top, long fraction) {
        x.set(r, top, (int) (fraction >>> 32), (int) fraction);
    }

    static String seen(TemporaryReals x) {
        StringBuilder text = new StringBuilder();
        for (int r = 0; r < 8; r++) {
            text.append(x.part(r, 0)).append(' ').append(x.part(r, 1)).append(' ').append(x.part(r, 2)).append(' ');
        }
        return text.append(x.last(0)).append(' ').append(x.last(1)).append(' ').append(x.last(2)).toString();
    }

    /** Registers that all differ, and a last make() whose three answers differ from a new object's. */
    static TemporaryReals filled() {
        TemporaryReals x = new TemporaryReals();
        for (int r = 0; r < 8; r++) {
            x.set(r, 0x9000 + r, 0x80000000 + 17 * r, 1000 + r);
        }
        x.make(7, true, 5, 0, 1, 2, 3, true);
        return x;
    }

    /** Looks that a refused call throws what is due and leaves all that can be seen as it was. */
    static void dueRefused(Check check, String what, Class<? extends RuntimeException> want, TemporaryReals x,
            Check.Call call) {
        String before = seen(x);
        check.dueThrows(what, want, call);
        check.dueTrue(what + " changes nothing", before.equals(seen(x)));
    }
}
