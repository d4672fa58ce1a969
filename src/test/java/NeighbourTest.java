/** Promise 9: sentence by sentence, then every edge and many others against the model. */
public final class NeighbourTest {
    private static final long HIGHEST = Long.MIN_VALUE;
    /** One of each way in which neighbour() finds its answer. */
    private static final Patterns.Pattern[] CORNERS = {new Patterns.Pattern(0, 0L), new Patterns.Pattern(9, 0L),
        new Patterns.Pattern(0, 1L), new Patterns.Pattern(0, 7L), new Patterns.Pattern(0, Long.MAX_VALUE),
        new Patterns.Pattern(0, -1L), new Patterns.Pattern(1, HIGHEST), new Patterns.Pattern(1, -1L),
        new Patterns.Pattern(2, HIGHEST), new Patterns.Pattern(70, 1L), new Patterns.Pattern(16383, HIGHEST),
        new Patterns.Pattern(16383, HIGHEST + 1L), new Patterns.Pattern(32766, -1L), new Patterns.Pattern(32767, 0L),
        new Patterns.Pattern(32767, HIGHEST), new Patterns.Pattern(32767, 1L), new Patterns.Pattern(32767, -1L)};

    public static void main(String[] args) {
        Check check = new Check();
        fromZero(check);
        toZero(check);
        denormals(check);
        leastNormal(check);
        powers(check);
        greatestNormal(check);
        toInfinite(check);
        fromInfinite(check);
        infiniteInThatDirection(check);
        noNumber(check);
        otherForms(check);
        nothingBetween(check);
        againstModel(check);
        registers(check);
        controlIsNoMatter(check);
        onlyTheRegisterChanges(check);
        noSuchRegister(check);
        check.end();
    }

    private static void dueNeighbour(Check check, int top, long fraction, boolean up, int wantTop, long wantFraction) {
        TemporaryReals x = new TemporaryReals();
        State.set(x, 2, top, fraction);
        x.neighbour(2, up, 7);
        String what = "neighbour of " + top + " " + fraction + (up ? " up" : " down");
        check.duePattern(what, x, 7, wantTop, wantFraction);
        check.duePattern(what + ": r is kept", x, 2, top, fraction);
    }

    /** Of two sizes that are neighbours, each with either sign leads to the other. */
    private static void dueNeighbours(Check check, int top, long fraction, int greaterTop, long greaterFraction) {
        dueNeighbour(check, top, fraction, true, greaterTop, greaterFraction);
        dueNeighbour(check, greaterTop, greaterFraction, false, top, fraction);
        dueNeighbour(check, top | 0x8000, fraction, false, greaterTop | 0x8000, greaterFraction);
        dueNeighbour(check, greaterTop | 0x8000, greaterFraction, true, top | 0x8000, fraction);
    }

    private static void fromZero(Check check) {
        check.by("the least real of 64 digits whose number is above it, or the greatest below it: of a zero");
        int[] powers = {0, 1, 2, 500, 16383, 32765, 32766};
        for (int p : powers) {
            for (int sign = 0; sign <= 0x8000; sign += 0x8000) {
                dueNeighbour(check, sign | p, 0L, true, 0, 1L);
                dueNeighbour(check, sign | p, 0L, false, 0x8000, 1L);
            }
        }
    }

    private static void toZero(Check check) {
        check.by("ZERO gets the sign of r");
        int[] powers = {0, 1};
        for (int p : powers) {
            dueNeighbour(check, p, 1L, false, 0, 0L);
            dueNeighbour(check, p | 0x8000, 1L, true, 0x8000, 0L);
        }
    }

    private static void denormals(Check check) {
        check.by("(ZERO, DENORMAL, ..): from the least DENORMAL to the greatest");
        dueNeighbours(check, 0, 1L, 0, 2L);
        dueNeighbours(check, 0, 2L, 0, 3L);
        dueNeighbours(check, 0, 0xffffffffL, 0, 0x100000000L);
        dueNeighbours(check, 0, (1L << 62) - 1L, 0, 1L << 62);
        dueNeighbours(check, 0, Long.MAX_VALUE - 1L, 0, Long.MAX_VALUE);
    }

    private static void leastNormal(Check check) {
        check.by("(.. DENORMAL, NORMAL ..): the greatest DENORMAL below 2^-16382 and the least NORMAL");
        dueNeighbours(check, 0, Long.MAX_VALUE, 1, HIGHEST);
        dueNeighbours(check, 1, HIGHEST, 1, HIGHEST + 1L);
        // A DENORMAL of 2^-16382 or more has NORMAL neighbours.
        dueNeighbour(check, 0, HIGHEST, true, 1, HIGHEST + 1L);
        dueNeighbour(check, 0, HIGHEST, false, 0, Long.MAX_VALUE);
        dueNeighbour(check, 0, HIGHEST + 1L, false, 1, HIGHEST);
        dueNeighbour(check, 0, -1L, true, 2, HIGHEST);
        dueNeighbour(check, 0, -1L, false, 1, -2L);
        dueNeighbour(check, 0x8000, -1L, false, 0x8002, HIGHEST);
        dueNeighbour(check, 0x8000, HIGHEST, true, 0x8000, Long.MAX_VALUE);
    }

    private static void powers(Check check) {
        check.by("the least real of 64 digits whose number is above it: over each power");
        for (int p = 1; p < 32766; p++) {
            dueNeighbours(check, p, -1L, p + 1, HIGHEST);
        }
        dueNeighbours(check, 16383, HIGHEST, 16383, HIGHEST + 1L);
        dueNeighbours(check, 16383, HIGHEST + 0xffffffffL, 16383, HIGHEST + 0x100000000L);
    }

    private static void greatestNormal(Check check) {
        check.by("or the greatest below it: of the greatest NORMAL");
        dueNeighbours(check, 32766, -2L, 32766, -1L);
    }

    private static void toInfinite(Check check) {
        check.by("(.. NORMAL or infinite) whose number is above it");
        dueNeighbour(check, 32766, -1L, true, 32767, HIGHEST);
        dueNeighbour(check, 0xfffe, -1L, false, 0xffff, HIGHEST);
    }

    private static void fromInfinite(Check check) {
        check.by("or the greatest below it: of an infinite one");
        long[] infinites = {0L, HIGHEST};
        for (long f : infinites) {
            dueNeighbour(check, 32767, f, false, 32766, -1L);
            dueNeighbour(check, 0xffff, f, true, 0xfffe, -1L);
        }
    }

    private static void infiniteInThatDirection(Check check) {
        check.by("what .. is infinite in that direction, is copied");
        long[] infinites = {0L, HIGHEST};
        for (long f : infinites) {
            dueNeighbour(check, 32767, f, true, 32767, f);
            dueNeighbour(check, 0xffff, f, false, 0xffff, f);
        }
    }

    private static void noNumber(Check check) {
        check.by("what is no number .. is copied");
        for (int bit = 0; bit < 63; bit++) {
            for (int top = 0x7fff; top <= 0xffff; top += 0x8000) {
                dueNeighbour(check, top, 1L << bit, true, top, 1L << bit);
                dueNeighbour(check, top, 1L << bit, false, top, 1L << bit);
                dueNeighbour(check, top, HIGHEST | 1L << bit, true, top, HIGHEST | 1L << bit);
                dueNeighbour(check, top, HIGHEST | 1L << bit, false, top, HIGHEST | 1L << bit);
            }
        }
        dueNeighbour(check, 0x7fff, -1L, true, 0x7fff, -1L);
        dueNeighbour(check, 0xffff, -1L, false, 0xffff, -1L);
    }

    private static void otherForms(Check check) {
        check.by("register r's number: of an UNNORMAL its number alone");
        dueNeighbour(check, 200, 1L, true, 137, HIGHEST + 1L);
        dueNeighbour(check, 200, 1L, false, 136, -1L);
        dueNeighbour(check, 0x8000 + 200, 1L, true, 0x8000 + 136, -1L);
        dueNeighbour(check, 0x8000 + 200, 1L, false, 0x8000 + 137, HIGHEST + 1L);
        dueNeighbour(check, 64, 1L, false, 0, Long.MAX_VALUE);
        dueNeighbour(check, 64, 1L, true, 1, HIGHEST + 1L);
        dueNeighbour(check, 63, 1L, true, 0, (1L << 62) + 1L);
        dueNeighbour(check, 63, 1L, false, 0, (1L << 62) - 1L);
        dueNeighbour(check, 32766, Long.MAX_VALUE, true, 32765, -1L);
        dueNeighbour(check, 32766, 1L, true, 32703, HIGHEST + 1L);
        dueNeighbour(check, 1, Long.MAX_VALUE, true, 1, HIGHEST);
    }

    /** Up and down again leads back to the same number, and compare() sees each step. */
    private static void nothingBetween(Check check) {
        check.by("the least .. whose number is above it, or the greatest below it: back again it is the same number");
        for (Patterns.Pattern pattern : Patterns.edges()) {
            if ((pattern.top() & 0x7fff) == 0x7fff) {
                continue;
            }
            TemporaryReals x = new TemporaryReals();
            State.set(x, 0, pattern.top(), pattern.fraction());
            for (int way = 0; way < 2; way++) {
                x.neighbour(0, way == 1, 1);
                check.due("step from " + pattern, x.compare(1, 0), way == 1 ? 1 : -1);
                x.neighbour(1, way == 0, 2);
                check.due("back to " + pattern, x.compare(2, 0), 0);
            }
        }
    }

    private static void againstModel(Check check) {
        check.by("all edges and many others against the model");
        for (Patterns.Pattern pattern : Patterns.edges()) {
            dueAsModel(check, pattern);
        }
        Patterns stream = new Patterns(9);
        for (int i = 0; i < 6000; i++) {
            dueAsModel(check, stream.pattern());
        }
    }

    private static void dueAsModel(Check check, Patterns.Pattern pattern) {
        Model model = new Model();
        model.neighbour(pattern.top(), pattern.fraction(), true);
        dueNeighbour(check, pattern.top(), pattern.fraction(), true, model.top, model.fraction.longValue());
        model.neighbour(pattern.top(), pattern.fraction(), false);
        dueNeighbour(check, pattern.top(), pattern.fraction(), false, model.top, model.fraction.longValue());
    }

    private static void registers(Check check) {
        check.by("goes into another one: into that one alone");
        for (int r = 0; r < 8; r++) {
            for (int to = 0; to < 8; to++) {
                TemporaryReals x = State.filled();
                TemporaryReals twin = State.filled();
                State.set(x, r, 9, 1L << 62);
                State.set(twin, r, 9, 1L << 62);
                x.neighbour(r, true, to);
                check.duePattern("neighbour(" + r + ", true, " + to + ")", x, to, 8, HIGHEST + 1L);
                State.dueKeepsOthers(check, "neighbour(" + r + ", true, " + to + ")", x, twin, to);
                check.dueLast("neighbour is no make", x, twin.last(0), twin.last(1), twin.last(2));
                check.dueTrue("neighbour keeps the control", State.control(x).equals(State.control(twin)));
            }
        }
    }

    private static void controlIsNoMatter(Check check) {
        check.by("the least real of 64 digits: whatever the control says");
        for (int word = 0; word < 0x1000; word += 8) {
            for (Patterns.Pattern pattern : CORNERS) {
                for (int way = 0; way < 4; way++) {
                    dueSameUnder(check, word, way / 2 << 15 | pattern.top(), pattern.fraction(), way % 2 == 1);
                }
            }
        }
    }

    private static void dueSameUnder(Check check, int word, int top, long fraction, boolean up) {
        TemporaryReals x = new TemporaryReals();
        x.control(word);
        State.set(x, 0, top, fraction);
        x.neighbour(0, up, 1);
        TemporaryReals twin = new TemporaryReals();
        State.set(twin, 0, top, fraction);
        twin.neighbour(0, up, 1);
        check.dueTrue("of " + top + " " + fraction + " under control " + word, State.seen(x).equals(State.seen(twin)));
    }

    private static void onlyTheRegisterChanges(Check check) {
        check.by("The neighbour of register r's number goes into another one: nothing else changes");
        for (Patterns.Pattern pattern : CORNERS) {
            for (int way = 0; way < 4; way++) {
                TemporaryReals x = State.filled(0x0a10);
                TemporaryReals twin = State.filled(0x0a10);
                int top = way / 2 << 15 | pattern.top();
                State.set(x, 3, top, pattern.fraction());
                State.set(twin, 3, top, pattern.fraction());
                x.neighbour(3, way % 2 == 1, 6);
                State.dueKeepsOthers(check, "neighbour of " + pattern, x, twin, 6);
                check.dueLast("neighbour is no make", x, twin.last(0), twin.last(1), twin.last(2));
                check.dueTrue("neighbour keeps the control", State.control(x).equals(State.control(twin)));
            }
        }
    }

    private static void noSuchRegister(Check check) {
        check.by("IndexOutOfBoundsException when there is no such register: r");
        for (int r : State.NO_REGISTERS) {
            for (int to = 0; to < 8; to++) {
                dueRefused(check, r, to);
            }
        }
        check.by("IndexOutOfBoundsException when there is no such register: to");
        for (int to : State.NO_REGISTERS) {
            for (int r = 0; r < 8; r++) {
                dueRefused(check, r, to);
            }
            for (int r : State.NO_REGISTERS) {
                dueRefused(check, r, to);
            }
        }
        check.by("IndexOutOfBoundsException when there is no such register: for a copy too");
        TemporaryReals x = new TemporaryReals();
        State.set(x, 0, 0x7fff, 1L);
        for (int to : State.NO_REGISTERS) {
            check.dueThrows("neighbour to " + to, IndexOutOfBoundsException.class, () -> x.neighbour(0, true, to));
        }
    }

    private static void dueRefused(Check check, int r, int to) {
        State.dueRefused(check, "neighbour(" + r + ", true, " + to + ")", IndexOutOfBoundsException.class,
                x -> x.neighbour(r, true, to));
        State.dueRefused(check, "neighbour(" + r + ", false, " + to + ")", IndexOutOfBoundsException.class,
                x -> x.neighbour(r, false, to));
    }
}
