import java.math.BigInteger;

/** Promises 2, 5, 6 and 7 together: make() and again() against the model under every control that matters. */
public final class MakeModelTest {
    private static final Check CHECK = new Check();
    private static final Patterns STREAM = new Patterns(5);

    public static void main(String[] args) {
        CHECK.by("TO MAKE a real of a sign and an exact size x");
        for (int word = 0; word < 0x1000; word++) {
            // The bits below the masks and between them and the precision are ControlTest's.
            if ((word & 0x00c7) == 0) {
                makes(word);
                agains(word);
            }
        }
        CHECK.end();
    }

    private static void makes(int word) {
        TemporaryReals x = new TemporaryReals();
        x.control(word);
        for (int i = 0; i < 60; i++) {
            long high = STREAM.below(3) == 0 ? 0L : STREAM.bits();
            long low = STREAM.below(4) == 0 ? 0L : STREAM.bits();
            boolean l = STREAM.below(2) == 0;
            boolean negative = STREAM.below(2) == 0;
            BigInteger doubled = Model.unsigned(high).shiftLeft(65).add(Model.unsigned(low).shiftLeft(1))
                    .add(l ? BigInteger.ONE : BigInteger.ZERO);
            int e = STREAM.e(doubled);
            Model model = new Model();
            model.word = word;
            model.make(negative, doubled.multiply(Model.power(e - 1)));
            int told = x.make(3, negative, e, (int) (high >>> 32), (int) high, (int) (low >>> 32), (int) low, l);
            dueAsModel("control " + word + " make " + negative + " " + e + " " + high + " " + low + " " + l, x, told,
                    model);
        }
    }

    private static void agains(int word) {
        for (int i = 0; i < 60; i++) {
            Patterns.Pattern from = STREAM.pattern();
            againOf(word, from);
        }
        if ((word & 0x0020) == 0) {
            for (Patterns.Pattern from : Patterns.edges()) {
                againOf(word, from);
            }
        }
    }

    private static void againOf(int word, Patterns.Pattern from) {
        Model model = new Model();
        model.word = word;
        model.again(from.top(), from.fraction());
        TemporaryReals x = new TemporaryReals();
        x.control(word);
        State.set(x, 5, from.top(), from.fraction());
        int told = x.again(5, 3);
        dueAsModel("control " + word + " again " + from, x, told, model);
    }

    private static void dueAsModel(String what, TemporaryReals x, int told, Model model) {
        CHECK.due(what, told, model.told);
        CHECK.duePattern(what, x, 3, model.top, model.fraction.longValue());
        CHECK.dueLast(what, x, model.told, model.k, model.change);
        CHECK.due(what + ": kind", x.part(3, 3), Model.kind(model.top, model.fraction.longValue()));
    }
}
