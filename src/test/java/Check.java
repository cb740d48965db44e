import java.util.NoSuchElementException;

/** Holds a test's calls against the answers that are due, and counts those that differ. */
final class Check {
    static final Class<?> NO_SUCH = NoSuchElementException.class;
    static final Class<?> ARGUMENT = IllegalArgumentException.class;
    static final Class<?> STATE = IllegalStateException.class;
    static final Class<?> ROOM = UnsupportedOperationException.class;

    interface Call {
        long answer();
    }

    interface Step {
        void take();
    }

    interface Use {
        long on(OwnerLedger x);
    }

    private int wrong;

    void due(String what, long want, Call call) {
        same(what, String.valueOf(want), answerOf(call));
    }

    void passes(String what, Step step) {
        due(what, 0, () -> {
            step.take();
            return 0;
        });
    }

    void refused(String what, Class<?> want, Call call) {
        same(what, want.getName(), answerOf(call));
    }

    void refusedStep(String what, Class<?> want, Step step) {
        refused(what, want, () -> {
            step.take();
            return 0;
        });
    }

    void same(String what, String want, String got) {
        if (!want.equals(got)) {
            wrong++;
            System.out.println(what + ": answered " + got + ", due is " + want);
        }
    }

    /** What a call answers, or the name of what it throws. */
    static String answerOf(Call call) {
        try {
            return String.valueOf(call.answer());
        } catch (RuntimeException e) {
            return e.getClass().getName();
        }
    }

    /** Ends the test: with exit code 1 if an answer was wrong. */
    void end() {
        if (wrong != 0) {
            System.out.println(wrong + " answers are not as due");
            System.exit(1);
        }
    }
}
