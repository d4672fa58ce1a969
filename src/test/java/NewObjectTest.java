/** Promise 1: the control is 0x03ff, all registers are ZERO without the sign -. */
public final class NewObjectTest {
    public static void main(String[] args) {
        Check check = new Check();
        registersAreZero(check);
        controlIsNearest64Masked(check);
        controlIsAsGiven(check);
        objectsAreApart(check);
        usedToTheEnd(check);
        check.end();
    }

    private static void registersAreZero(Check check) {
        check.by("all registers are ZERO without the sign -");
        TemporaryReals x = new TemporaryReals();
        for (int r = 0; r < 8; r++) {
            check.duePattern("register " + r, x, r, 0, 0L);
            check.due("kind of " + r, x.part(r, 3), 0);
            check.due("zeros of " + r, x.part(r, 4), 64);
        }
    }

    private static void controlIsNearest64Masked(Check check) {
        check.by("The control is 0x03ff: nearest, 64 digits, all masked");
        TemporaryReals x = new TemporaryReals();
        check.due("64 digits are kept", x.make(0, false, 0, 0, 0, 0x80000000, 1, false), 0);
        check.due("a tie goes to the even one below", x.make(0, false, 0, 0, 0, 0x80000000, 0, true), 32);
        check.due("a tie goes to the even one below", x.last(2), -1);
        check.due("a tie goes to the even one above", x.make(0, true, 0, 0, 0, 0x80000000, 1, true), 32);
        check.due("a tie goes to the even one above", x.last(2), 1);
        check.due("OVER is masked", x.make(0, false, 16384, 0, 0, 0, 1, false), 40);
        check.due("OVER is masked", x.part(0, 3), 4);
        check.due("UNDER is masked", x.make(0, false, -16446, 0, 0, 0, 1, false), 48);
        check.due("UNDER is masked", x.part(0, 3), 0);
    }

    private static void controlIsAsGiven(Check check) {
        check.by("The control is 0x03ff: as when it is given");
        TemporaryReals given = new TemporaryReals();
        given.control(0x03ff);
        check.dueTrue("both", State.control(new TemporaryReals()).equals(State.control(given)));
    }

    private static void objectsAreApart(Check check) {
        check.by("A new object: whatever others hold");
        TemporaryReals x = State.filled();
        x.control(0);
        TemporaryReals y = new TemporaryReals();
        for (int r = 0; r < 8; r++) {
            check.duePattern("another object's register", y, r, 0, 0L);
        }
        check.due("another object's control", y.make(0, false, 16384, 0, 0, 0, 1, false), 40);
        check.due("this object's control", x.make(0, false, 16384, 0, 0, 0, 1, false), 8);
    }

    private static void usedToTheEnd(Check check) {
        check.by("An object is used for at most 512 calls after it has been made");
        TemporaryReals x = new TemporaryReals();
        for (int call = 1; call < 511; call += 2) {
            x.make(call & 7, false, call, 0, 0, 0, 1, false);
            check.due("call " + call, x.part(call & 7, 0), call + 16383);
        }
        x.neighbour(3, true, 4);
        check.due("call 512", x.compare(4, 3), 1);
    }
}
