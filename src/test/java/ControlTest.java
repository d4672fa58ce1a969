/** Promise 2: the control's masks, precision and rounding, its other bits, and words of more than 16 bits. */
public final class ControlTest {
    public static void main(String[] args) {
        Check check = new Check();
        precisions(check);
        roundings(check);
        masks(check);
        otherBitsChangeNothing(check);
        refusedWords(check);
        check.end();
    }

    private static void precisions(Check check) {
        int[] bits = {0, 1, 2, 3};
        int[] digits = {24, 64, 53, 64};
        for (int i = 0; i < 4; i++) {
            TemporaryReals x = new TemporaryReals();
            x.control(0x003f | bits[i] << 8);
            String what = "precision " + bits[i];
            long kept = 1L << (digits[i] - 1) | 1L;
            check.due(what + " keeps n digits", x.make(0, false, 0, 0, 0, (int) (kept >>> 32), (int) kept, false), 0);
            long more = kept << 1 | 1L;
            int above = digits[i] == 64 ? 1 : 0;
            check.due(what + " loses one digit more",
                    x.make(0, false, 0, 0, above, (int) (more >>> 32), (int) more, false), 32);
        }
    }

    private static void roundings(Check check) {
        // Rows: rounding; columns: 2^63 and a quarter, a half, three quarters; then 2^63 + 1 and a half.
        int[][] withoutSign = {{-1, -1, 1, 1}, {-1, -1, -1, -1}, {1, 1, 1, 1}, {-1, -1, -1, -1}};
        int[][] withSign = {{-1, -1, 1, 1}, {1, 1, 1, 1}, {-1, -1, -1, -1}, {-1, -1, -1, -1}};
        for (int rounding = 0; rounding < 4; rounding++) {
            for (int sign = 0; sign < 2; sign++) {
                TemporaryReals x = new TemporaryReals();
                x.control(0x033f | rounding << 10);
                int[] want = sign == 0 ? withoutSign[rounding] : withSign[rounding];
                for (int quarter = 1; quarter <= 3; quarter++) {
                    x.make(0, sign == 1, -2, 0, 2, 0, quarter, false);
                    check.due("rounding " + rounding + " sign " + sign + " quarters " + quarter, x.last(2),
                            want[quarter - 1]);
                    check.due("its low", x.part(0, 2), want[quarter - 1] > 0 ? 1 : 0);
                }
                x.make(0, sign == 1, -2, 0, 2, 0, 6, false);
                check.due("rounding " + rounding + " sign " + sign + " odd half", x.last(2), want[3]);
                check.due("its low", x.part(0, 2), want[3] > 0 ? 2 : 1);
            }
        }
    }

    private static void masks(Check check) {
        for (int word = 0; word < 64; word += 8) {
            TemporaryReals x = new TemporaryReals();
            x.control(0x0300 | word);
            boolean over = (word & 8) != 0;
            boolean under = (word & 16) != 0;
            check.due(word + " too great", x.make(0, false, 16384, 0, 0, 0, 1, false), over ? 40 : 8);
            check.due(word + " its top", x.part(0, 0), over ? 32767 : 16384 + 16383 - 24576);
            check.due(word + " too small", x.make(0, true, -16400, 0, 0, 0, 1, false), under ? 0 : 16);
            check.due(word + " its top", x.part(0, 0), 0x8000 + (under ? 0 : -16400 + 16383 + 24576));
            check.due(word + " lost", x.make(0, false, 0, 1, 0, 0, 1, false), 32);
        }
    }

    private static void otherBitsChangeNothing(Check check) {
        for (int bit = 0; bit < 16; bit++) {
            if ((0x0f18 >> bit & 1) != 0) {
                continue;
            }
            TemporaryReals x = new TemporaryReals();
            TemporaryReals y = new TemporaryReals();
            x.control(0x0a08);
            y.control(0x0a08 | 1 << bit);
            check.due("bit " + bit, y.make(0, false, -16400, 1, 2, 3, 4, true),
                    x.make(0, false, -16400, 1, 2, 3, 4, true));
            check.dueTrue("bit " + bit, State.seen(x).equals(State.seen(y)));
        }
    }

    private static void refusedWords(Check check) {
        int[] words = {0x10000, 0x103ff, -1, Integer.MIN_VALUE, Integer.MAX_VALUE, 0xffff0000};
        TemporaryReals x = State.filled();
        x.control(0x0c3f);
        for (int word : words) {
            State.dueRefused(check, "control(" + word + ")", IllegalArgumentException.class, x, () -> x.control(word));
        }
        x.make(0, false, 0, 0, 0, 3, 3, true);
        check.due("the control before is kept: 24 digits towards 0", x.last(2), -1);
        x.control(0xffff);
        check.due("0xffff is towards 0 with 64 digits", x.make(0, false, 0, 0, 1, 0, 0, true), 32);
        x.control(0);
        check.due("0 masks nothing", x.make(0, false, 16384, 0, 0, 0, 1, false), 8);
    }
}
