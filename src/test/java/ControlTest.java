/** Promise 2: the control's masks, precision and rounding, its other bits, and words of more than 16 bits. */
public final class ControlTest {
    public static void main(String[] args) {
        Check check = new Check();
        everyWord(check);
        masks(check);
        maskOfLossChangesNothing(check);
        otherBitsChangeNothing(check);
        leastAndGreatestWord(check);
        keepsAllElse(check);
        moreBits(check);
        check.end();
    }

    private static void everyWord(Check check) {
        check.by("The control's word: precision and rounding, RoundingTest has their edges");
        int[] digits = {24, 64, 53, 64};
        for (int word = 0; word < 0x1000; word += 0x100) {
            TemporaryReals x = new TemporaryReals();
            x.control(word);
            int n = digits[word >> 8 & 3];
            int rounding = word >> 10;
            // The first and the last of n digits are 1, and behind them lies somewhat more than a half.
            long head = Long.MIN_VALUE | 1L << 63 - n + 1 | (n == 64 ? 0L : 1L << 63 - n);
            long tail = n == 64 ? 0x8000000000000001L : 1L;
            for (int sign = 0; sign < 2; sign++) {
                boolean above = rounding == 0 || rounding == 1 && sign == 1 || rounding == 2 && sign == 0;
                x.make(0, sign == 1, 0, (int) (head >>> 32), (int) head, (int) (tail >>> 32), (int) tail, false);
                long want = Long.MIN_VALUE + (above ? 2L : 1L) * (1L << 64 - n);
                check.duePattern("word " + word + " sign " + sign, x, 0, sign * 0x8000 + 127 + 16383, want);
            }
        }
    }

    private static void masks(Check check) {
        check.by("Bits 3, 4 and 5 are the MASKS of OVER, UNDER and LOSS (1: masked");
        for (int word = 0; word < 64; word += 8) {
            TemporaryReals x = new TemporaryReals();
            x.control(0x0300 | word);
            boolean over = (word & 8) != 0;
            boolean under = (word & 16) != 0;
            check.due(word + " too great", x.make(0, false, 16384, 0, 0, 0, 1, false), over ? 40 : 8);
            check.due(word + " its top", x.part(0, 0), over ? 32767 : 16384 + 16383 - 24576);
            check.due(word + " too small", x.make(0, true, -16400, 0, 0, 0, 1, false), under ? 0 : 16);
            check.due(word + " its top", x.part(0, 0), 0x8000 + (under ? 0 : -16400 + 16383 + 24576));
        }
    }

    private static void maskOfLossChangesNothing(Check check) {
        check.by("that of LOSS changes nothing here");
        for (int word = 0; word < 0x1000; word += 8) {
            if ((word & 32) == 0) {
                dueAlike(check, word, word | 32);
                TemporaryReals x = new TemporaryReals();
                x.control(word | 32);
                check.due("LOSS is told when it is masked, too", x.make(0, false, 0, 1, 0, 0, 1, false), 32);
            }
        }
    }

    private static void otherBitsChangeNothing(Check check) {
        check.by("Others are kept");
        for (int bit = 0; bit < 16; bit++) {
            if ((0x0f38 >> bit & 1) == 0) {
                for (int word = 0; word < 0x1000; word += 0x118) {
                    dueAlike(check, word & 0x0f38, word & 0x0f38 | 1 << bit);
                }
            }
        }
    }

    private static void dueAlike(Check check, int word, int other) {
        TemporaryReals x = State.filled(word);
        TemporaryReals y = State.filled(other);
        check.due(word + " and " + other, y.make(0, false, -16400, 1, 2, 3, 4, true),
                x.make(0, false, -16400, 1, 2, 3, 4, true));
        check.due(word + " and " + other, y.make(1, true, 16300, 1, 2, 3, 4, true),
                x.make(1, true, 16300, 1, 2, 3, 4, true));
        check.due(word + " and " + other, y.again(2, 3), x.again(2, 3));
        check.dueTrue(word + " and " + other, State.seen(x).equals(State.seen(y)));
        check.dueTrue(word + " and " + other, State.control(x).equals(State.control(y)));
    }

    private static void leastAndGreatestWord(Check check) {
        check.by("THE CONTROL is a word of 16 bits: all of them fit");
        int[] words = {0, 1, 0x7fff, 0x8000, 0xfffe, 0xffff};
        for (int word : words) {
            TemporaryReals x = new TemporaryReals();
            x.control(word);
            TemporaryReals twin = new TemporaryReals();
            twin.control(word & 0x0f38);
            check.dueTrue("control(" + word + ")", State.control(x).equals(State.control(twin)));
        }
        TemporaryReals x = new TemporaryReals();
        x.control(0xffff);
        x.make(0, false, 0, 0, 1, 0xffffffff, 0xffffffff, true);
        check.due("0xffff is towards 0", x.last(2), -1);
        check.due("0xffff is 64 digits", x.part(0, 2), 0xffffffff);
        x.control(0);
        check.due("0 masks nothing", x.make(0, false, 16384, 0, 0, 0, 1, false), 8);
    }

    private static void keepsAllElse(Check check) {
        check.by("control() changes the control alone");
        TemporaryReals x = State.filled();
        String before = State.seen(x);
        x.control(0x0c00);
        check.dueTrue("registers and last()", before.equals(State.seen(x)));
    }

    private static void moreBits(Check check) {
        check.by("IllegalArgumentException when it has more than 16 bits");
        int[] words = {0x10000, 0x103ff, 0x10c00, 0x1ffff, Integer.MAX_VALUE};
        for (int word : words) {
            dueRefused(check, word);
        }
        for (int bit = 16; bit < 31; bit++) {
            dueRefused(check, 1 << bit);
            dueRefused(check, 1 << bit | 0x0f18);
        }
        check.by("IllegalArgumentException when it has more than 16 bits: negative ones too");
        int[] negatives = {-1, -2, -0x8000, -0x10000, 0xffff0c00, Integer.MIN_VALUE, Integer.MIN_VALUE + 0xf18};
        for (int word : negatives) {
            dueRefused(check, word);
        }
    }

    private static void dueRefused(Check check, int word) {
        State.dueRefused(check, "control(" + word + ")", IllegalArgumentException.class, x -> x.control(word));
    }
}
