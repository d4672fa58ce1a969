import java.util.List;

/** Promise 8: sentence by sentence, then every edge and many others against the model. */
public final class CompareTest {
    private static final long HIGHEST = Long.MIN_VALUE;
    private static final int[] ZERO_POWERS = {0, 1, 2, 500, 16383, 32765, 32766};
    private static final long[] NO_NUMBERS = {1L, 1L << 32, Long.MAX_VALUE, HIGHEST + 1L, 0xc000000000000000L, -1L};

    public static void main(String[] args) {
        Check check = new Check();
        byNumber(check);
        sameNumber(check);
        infinite(check);
        zeros(check);
        zerosAmongOthers(check);
        noNumber(check);
        edges(check);
        others(check);
        registersApart(check);
        changesNothing(check);
        noSuchRegister(check);
        check.end();
    }

    private static void dueCompared(Check check, int topA, long fractionA, int topB, long fractionB, int want) {
        TemporaryReals x = new TemporaryReals();
        State.set(x, 6, topA, fractionA);
        State.set(x, 1, topB, fractionB);
        String what = topA + " " + fractionA + " with " + topB + " " + fractionB;
        check.due(what, x.compare(6, 1), want);
        check.due(what + ", turned", x.compare(1, 6), want == 2 ? 2 : -want);
    }

    private static void byNumber(Check check) {
        check.by("-1, 0 or 1, as register a's number is below, the same as, or above b's");
        dueCompared(check, 16383, HIGHEST, 16384, HIGHEST, -1);
        dueCompared(check, 0x8000 + 16383, HIGHEST, 0x8000 + 16384, HIGHEST, 1);
        dueCompared(check, 0x8000 + 16383, HIGHEST, 16383, HIGHEST, -1);
        dueCompared(check, 16383, -1L, 16383, HIGHEST, 1);
        dueCompared(check, 16383, HIGHEST + 1L, 16383, HIGHEST, 1);
        dueCompared(check, 0x8000 + 16383, HIGHEST + 1L, 0x8000 + 16383, HIGHEST, -1);
        dueCompared(check, 0, 1L, 0, 2L, -1);
        dueCompared(check, 0, Long.MAX_VALUE, 1, HIGHEST, -1);
        dueCompared(check, 0, -1L, 2, HIGHEST, -1);
        dueCompared(check, 0, -1L, 1, -2L, 1);
        dueCompared(check, 1, -1L, 2, HIGHEST, -1);
        dueCompared(check, 32766, -1L, 32766, -2L, 1);
        // A fraction whose highest bit is 1 is no negative number.
        dueCompared(check, 100, HIGHEST, 100, Long.MAX_VALUE, 1);
        dueCompared(check, 0, HIGHEST, 0, Long.MAX_VALUE, 1);
        // An UNNORMAL real of a greater power may be the lesser one.
        dueCompared(check, 200, 1L, 137, HIGHEST + 1L, -1);
        dueCompared(check, 200, 1L, 136, -1L, 1);
        dueCompared(check, 32766, 1L, 32703, HIGHEST + 1L, -1);
        dueCompared(check, 64, 1L, 1, HIGHEST + 1L, -1);
        dueCompared(check, 63, 1L, 0, HIGHEST, -1);
    }

    private static void sameNumber(Check check) {
        check.by("the same as: whatever the kinds");
        for (int sign = 0; sign <= 0x8000; sign += 0x8000) {
            dueCompared(check, sign + 16383, HIGHEST, sign + 16383, HIGHEST, 0);
            dueCompared(check, sign + 100, 1L << 62, sign + 99, HIGHEST, 0);
            dueCompared(check, sign + 64, 1L, sign + 1, HIGHEST, 0);
            dueCompared(check, sign + 64, 1L, sign, HIGHEST, 0);
            dueCompared(check, sign + 63, 1L, sign, 1L << 62, 0);
            dueCompared(check, sign, HIGHEST, sign + 1, HIGHEST, 0);
            dueCompared(check, sign, 5L, sign + 1, 5L, 0);
            dueCompared(check, sign + 32766, 1L, sign + 32703, HIGHEST, 0);
        }
    }

    private static void infinite(Check check) {
        check.by("each infinite one beyond all others of its sign");
        long[] infinites = {0L, HIGHEST};
        for (long f : infinites) {
            for (long g : infinites) {
                dueCompared(check, 0x7fff, f, 0x7fff, g, 0);
                dueCompared(check, 0xffff, f, 0xffff, g, 0);
                dueCompared(check, 0xffff, f, 0x7fff, g, -1);
            }
            for (Patterns.Pattern other : Patterns.edges()) {
                if ((other.top() & 0x7fff) != 0x7fff) {
                    dueCompared(check, 0x7fff, f, other.top(), other.fraction(), 1);
                    dueCompared(check, 0xffff, f, other.top(), other.fraction(), -1);
                }
            }
        }
    }

    private static void zeros(Check check) {
        check.by("zeros of any kind and sign are the same");
        for (int p : ZERO_POWERS) {
            for (int q : ZERO_POWERS) {
                dueCompared(check, p, 0L, q, 0L, 0);
                dueCompared(check, p | 0x8000, 0L, q, 0L, 0);
                dueCompared(check, p | 0x8000, 0L, q | 0x8000, 0L, 0);
            }
        }
    }

    private static void zerosAmongOthers(Check check) {
        check.by("zeros of any kind and sign are the same: below all above 0, above all below 0");
        int[] powers = {0, 1, 16383, 32766};
        for (int p : ZERO_POWERS) {
            for (int sign = 0; sign <= 0x8000; sign += 0x8000) {
                for (int q : powers) {
                    dueCompared(check, p | sign, 0L, q, 1L, -1);
                    dueCompared(check, p | sign, 0L, q | 0x8000, 1L, 1);
                }
                dueCompared(check, p | sign, 0L, 32767, 0L, -1);
                dueCompared(check, p | sign, 0L, 0xffff, 0L, 1);
            }
        }
    }

    private static void noNumber(Check check) {
        check.by("2 when one is no number");
        for (long f : NO_NUMBERS) {
            for (int top = 0x7fff; top <= 0xffff; top += 0x8000) {
                for (Patterns.Pattern other : Patterns.edges()) {
                    dueCompared(check, top, f, other.top(), other.fraction(), 2);
                }
                TemporaryReals x = new TemporaryReals();
                State.set(x, 3, top, f);
                check.due("no number with itself", x.compare(3, 3), 2);
            }
        }
    }

    private static void edges(Check check) {
        check.by("all edges against the model");
        List<Patterns.Pattern> all = Patterns.edges();
        for (int i = 0; i < all.size(); i++) {
            for (int j = i % 13; j < all.size(); j += 13) {
                dueAsModel(check, all.get(i), all.get(j));
            }
        }
    }

    private static void others(Check check) {
        check.by("many others against the model");
        Patterns stream = new Patterns(8);
        for (int i = 0; i < 4000; i++) {
            Patterns.Pattern a = stream.pattern();
            dueAsModel(check, a, stream.pattern());
            // The same number, or one close by, in another form.
            int shift = stream.below(70);
            int power = Math.min((a.top() & 0x7fff) + shift, 32766);
            long moved = shift > 63 ? 0L : a.fraction() >>> shift;
            dueAsModel(check, a, new Patterns.Pattern(a.top() & 0x8000 | power, moved));
        }
    }

    private static void dueAsModel(Check check, Patterns.Pattern a, Patterns.Pattern b) {
        TemporaryReals x = new TemporaryReals();
        State.set(x, 0, a.top(), a.fraction());
        State.set(x, 1, b.top(), b.fraction());
        check.due(a + " with " + b, x.compare(0, 1), Model.compare(a.top(), a.fraction(), b.top(), b.fraction()));
    }

    private static void registersApart(Check check) {
        check.by("register a's number .. b's: of every two registers, one with itself too");
        TemporaryReals x = new TemporaryReals();
        for (int r = 0; r < 8; r++) {
            State.set(x, r, 16383 + r, HIGHEST);
        }
        for (int a = 0; a < 8; a++) {
            for (int b = 0; b < 8; b++) {
                check.due("registers " + a + " and " + b, x.compare(a, b), Integer.compare(a, b));
            }
        }
    }

    private static void changesNothing(Check check) {
        check.by("compare() only answers");
        for (Patterns.Pattern pattern : Patterns.edges()) {
            TemporaryReals x = State.filled(0x0a10);
            TemporaryReals twin = State.filled(0x0a10);
            State.set(x, 2, pattern.top(), pattern.fraction());
            State.set(twin, 2, pattern.top(), pattern.fraction());
            x.compare(2, 5);
            x.compare(5, 2);
            check.dueTrue("registers and last()", State.seen(x).equals(State.seen(twin)));
            check.dueTrue("the control", State.control(x).equals(State.control(twin)));
        }
    }

    private static void noSuchRegister(Check check) {
        check.by("IndexOutOfBoundsException when there is no such register: a");
        for (int r : State.NO_REGISTERS) {
            for (int b = 0; b < 8; b++) {
                dueRefused(check, r, b);
            }
        }
        check.by("IndexOutOfBoundsException when there is no such register: b");
        for (int r : State.NO_REGISTERS) {
            for (int a = 0; a < 8; a++) {
                dueRefused(check, a, r);
            }
            for (int a : State.NO_REGISTERS) {
                dueRefused(check, a, r);
            }
        }
        check.by("IndexOutOfBoundsException when there is no such register: though the other is no number");
        TemporaryReals x = new TemporaryReals();
        State.set(x, 0, 0x7fff, 1L);
        for (int r : State.NO_REGISTERS) {
            check.dueThrows("compare(0, " + r + ")", IndexOutOfBoundsException.class, () -> x.compare(0, r));
            check.dueThrows("compare(" + r + ", 0)", IndexOutOfBoundsException.class, () -> x.compare(r, 0));
        }
    }

    private static void dueRefused(Check check, int a, int b) {
        State.dueRefused(check, "compare(" + a + ", " + b + ")", IndexOutOfBoundsException.class,
                x -> x.compare(a, b));
    }
}
