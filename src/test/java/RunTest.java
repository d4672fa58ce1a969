import java.math.BigInteger;
import java.util.List;

/** Whole runs on one object: calls of every kind, good and refused, mixed, each answer against the model. */
public final class RunTest {
    private static final int RUNS = 300;
    private static final int CALLS = 512;
    /** The last calls of a run look at three parts of eight registers and at the last make() or again(). */
    private static final int LOOKS = 27;
    private static final int[] WRONG_NUMBERS = {-1, -2, 5, 6, 256, Integer.MIN_VALUE, Integer.MAX_VALUE};
    private static final int[] WRONG_WORDS = {-1, 0x10000, 0x103ff, 0xffff0000, Integer.MIN_VALUE, Integer.MAX_VALUE};
    private static final int[] WRONG_ES = {-33001, 33001, -65536, 65536, Integer.MIN_VALUE, Integer.MAX_VALUE};
    private static final List<Patterns.Pattern> EDGES = Patterns.edges();

    private final Check check;
    private final int run;
    private final Patterns stream;
    private final TemporaryReals x = new TemporaryReals();
    private final int[] tops = new int[8];
    private final long[] fractions = new long[8];
    private int word = 0x03ff;
    /** No make() or again() has been: then the document does not say what last() answers. */
    private boolean nothingMade = true;
    private int told;
    private int k;
    private int change;
    private int calls = 0;

    private interface Call {
        int answer();
    }

    private RunTest(Check check, int run) {
        this.check = check;
        this.run = run;
        stream = new Patterns(1000L + run);
    }

    public static void main(String[] args) {
        Check check = new Check();
        check.by("An object is used for at most 512 calls after it has been made: each of them as the document says");
        for (int run = 0; run < RUNS; run++) {
            new RunTest(check, run).go();
        }
        check.end();
    }

    private void go() {
        while (calls < CALLS - LOOKS) {
            next();
        }
        for (int r = 0; r < 8; r++) {
            for (int what = 0; what < 3; what++) {
                part(r, what);
            }
        }
        for (int what = 0; what < 3; what++) {
            last(what);
        }
        check.due("the calls of a run", calls, CALLS);
    }

    private void next() {
        switch (stream.below(10)) {
            case 0:
                control(stream.below(20) == 0 ? oneOf(WRONG_WORDS) : stream.below(0x10000));
                break;
            case 1:
                set();
                break;
            case 2:
                part(register(), stream.below(20) == 0 ? oneOf(WRONG_NUMBERS) : stream.below(5));
                break;
            case 3:
            case 4:
                make();
                break;
            case 5:
                again(register(), register());
                break;
            case 6:
                last(stream.below(10) == 0 ? oneOf(WRONG_NUMBERS) : stream.below(3));
                break;
            case 7:
            case 8:
                compare(register(), register());
                break;
            default:
                neighbour(register(), stream.below(2) == 0, register());
                break;
        }
    }

    private int oneOf(int[] numbers) {
        return numbers[stream.below(numbers.length)];
    }

    private int register() {
        return stream.below(25) == 0 ? oneOf(State.NO_REGISTERS) : stream.below(8);
    }

    private static boolean isRegister(int r) {
        return r >= 0 && r < 8;
    }

    /** One call of the run: refused is the exception that is due, or null. */
    private void due(String text, Class<? extends RuntimeException> refused, int want, Call call) {
        calls++;
        String what = "run " + run + " call " + calls + " " + text;
        if (refused != null) {
            check.dueThrows(what, refused, () -> call.answer());
        } else {
            check.due(what, call.answer(), want);
        }
    }

    private static Class<? extends RuntimeException> refusal(boolean registers, boolean numbers) {
        if (!registers) {
            return IndexOutOfBoundsException.class;
        }
        return numbers ? null : IllegalArgumentException.class;
    }

    private void control(int newWord) {
        boolean fits = newWord >= 0 && newWord <= 0xffff;
        due("control(" + newWord + ")", refusal(true, fits), 0, () -> {
            x.control(newWord);
            return 0;
        });
        word = fits ? newWord : word;
    }

    private void set() {
        int r = register();
        Patterns.Pattern pattern = stream.below(2) == 0 ? EDGES.get(stream.below(EDGES.size())) : stream.pattern();
        boolean fits = stream.below(20) != 0;
        int top = fits ? pattern.top() : oneOf(WRONG_WORDS);
        due("set(" + r + ", " + top + ", " + pattern.fraction() + ")", refusal(isRegister(r), fits), 0, () -> {
            State.set(x, r, top, pattern.fraction());
            return 0;
        });
        if (isRegister(r) && fits) {
            hold(r, top, pattern.fraction());
        }
    }

    private void hold(int r, int top, long fraction) {
        tops[r] = top;
        fractions[r] = fraction;
    }

    private void part(int r, int what) {
        Class<? extends RuntimeException> refused = refusal(isRegister(r), what >= 0 && what <= 4);
        due("part(" + r + ", " + what + ")", refused, refused == null ? partOf(r, what) : 0, () -> x.part(r, what));
    }

    private int partOf(int r, int what) {
        switch (what) {
            case 0:
                return tops[r];
            case 1:
                return (int) (fractions[r] >> 32);
            case 2:
                return (int) fractions[r];
            case 3:
                return Model.kind(tops[r], fractions[r]);
            default:
                return 64 - Model.unsigned(fractions[r]).bitLength();
        }
    }

    private void make() {
        int r = register();
        boolean negative = stream.below(2) == 0;
        BigInteger doubled = Model.unsigned(stream.below(3) == 0 ? 0L : stream.bits()).shiftLeft(65)
                .add(Model.unsigned(stream.below(4) == 0 ? 0L : stream.bits()).shiftLeft(1))
                .add(BigInteger.valueOf(stream.below(2)));
        boolean fits = stream.below(20) != 0;
        int e = fits ? stream.e(doubled) : oneOf(WRONG_ES);
        String text = "make(" + r + ", " + negative + ", " + e + ") of " + doubled;
        Class<? extends RuntimeException> refused = refusal(isRegister(r), fits);
        Model model = new Model();
        model.word = word;
        if (refused == null) {
            model.make(negative, doubled.multiply(Model.power(e - 1)));
        }
        due(text, refused, model.told, () -> State.make(x, r, negative, doubled, e));
        if (refused == null) {
            holdMade(r, model);
        }
    }

    private void holdMade(int r, Model model) {
        hold(r, model.top, model.fraction.longValue());
        nothingMade = false;
        told = model.told;
        k = model.k;
        change = model.change;
    }

    private void again(int r, int to) {
        Class<? extends RuntimeException> refused = refusal(isRegister(r) && isRegister(to), true);
        Model model = new Model();
        model.word = word;
        if (refused == null) {
            model.again(tops[r], fractions[r]);
        }
        due("again(" + r + ", " + to + ")", refused, model.told, () -> x.again(r, to));
        if (refused == null) {
            holdMade(to, model);
        }
    }

    private void last(int what) {
        boolean fits = what >= 0 && what <= 2;
        if (nothingMade && fits) {
            return;
        }
        due("last(" + what + ")", refusal(true, fits), what == 0 ? told : what == 1 ? k : change, () -> x.last(what));
    }

    private void compare(int a, int b) {
        Class<? extends RuntimeException> refused = refusal(isRegister(a) && isRegister(b), true);
        int want = refused == null ? Model.compare(tops[a], fractions[a], tops[b], fractions[b]) : 0;
        due("compare(" + a + ", " + b + ")", refused, want, () -> x.compare(a, b));
    }

    private void neighbour(int r, boolean up, int to) {
        Class<? extends RuntimeException> refused = refusal(isRegister(r) && isRegister(to), true);
        due("neighbour(" + r + ", " + up + ", " + to + ")", refused, 0, () -> {
            x.neighbour(r, up, to);
            return 0;
        });
        if (refused == null) {
            Model model = new Model();
            model.neighbour(tops[r], fractions[r], up);
            hold(to, model.top, model.fraction.longValue());
        }
    }
}
