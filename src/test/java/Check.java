/** Counts the answers that are not the ones due, by the document's sentences; each test ends through end(). */
final class Check {
    /** Of each sentence. */
    private static final int SHOWN = 8;
    private int wrong = 0;
    private int wrongBySentence = 0;
    private int looked = 0;
    private int sentences = 0;
    private int lookedBefore = -1;
    private String sentence = "";

    /** A call whose exception is looked at. */
    interface Call {
        void run();
    }

    /** The sentence by which the answers that follow are due; one by which nothing is looked at is a fault too. */
    void by(String words) {
        endSentence();
        sentences++;
        sentence = words;
        lookedBefore = looked;
        wrongBySentence = 0;
    }

    private void endSentence() {
        if (looked == lookedBefore) {
            wrong("nothing was looked at");
        }
    }

    private void wrong(String what) {
        wrong++;
        wrongBySentence++;
        if (wrongBySentence <= SHOWN) {
            System.out.println("[" + sentence + "] " + what);
        }
    }

    void due(String what, long got, long want) {
        looked++;
        if (got != want) {
            wrong(what + " answered " + got + ", due is " + want);
        }
    }

    void dueTrue(String what, boolean got) {
        due(what, got ? 1 : 0, 1);
    }

    /** The exception must be of this very class: a subclass would be one that the machine threw. */
    void dueThrows(String what, Class<? extends RuntimeException> want, Call call) {
        Class<?> got = null;
        try {
            call.run();
        } catch (RuntimeException e) {
            got = e.getClass();
        }
        dueTrue(what + " throws " + got + ", due is " + want, got == want);
    }

    void duePattern(String what, TemporaryReals x, int r, int top, long fraction) {
        due(what + ": top", x.part(r, 0), top);
        due(what + ": high", x.part(r, 1), (int) (fraction >>> 32));
        due(what + ": low", x.part(r, 2), (int) fraction);
    }

    void dueLast(String what, TemporaryReals x, int told, int k, int change) {
        due(what + ": last(0)", x.last(0), told);
        due(what + ": last(1)", x.last(1), k);
        due(what + ": last(2)", x.last(2), change);
    }

    void end() {
        endSentence();
        System.out.println(wrong == 0 ? "all " + looked + " answers by " + sentences + " sentences are as due"
                : wrong + " of " + looked + " answers are not as due");
        if (wrong != 0 || looked == 0) {
            System.exit(1);
        }
    }
}
