import java.util.function.LongSupplier;

/** Compares answers with those that are due, prints the wrong ones, and ends with exit code 1 then. */
final class Check {
    private String title = "";
    private int checks = 0;
    private int wrong = 0;

    void about(String what) {
        title = what;
    }

    void due(long want, long got, String call) {
        checks++;
        if (want != got) {
            fault(call + " answered " + got + ", due is " + want);
        }
    }

    void yes(boolean got, String call) {
        due(1, got ? 1 : 0, call);
    }

    void no(boolean got, String call) {
        due(0, got ? 1 : 0, call);
    }

    void throwsOut(LongSupplier call, String text) {
        throwsJust(IndexOutOfBoundsException.class, call, text);
    }

    void throwsState(LongSupplier call, String text) {
        throwsJust(IllegalStateException.class, call, text);
    }

    void throwsArgument(LongSupplier call, String text) {
        throwsJust(IllegalArgumentException.class, call, text);
    }

    // Classes are compared as they are: one that the machine throws, below the due one, is wrong too.
    private void throwsJust(Class<?> want, LongSupplier call, String text) {
        checks++;
        try {
            fault(text + " answered " + call.getAsLong() + ", due is " + want.getSimpleName());
        } catch (RuntimeException e) {
            if (e.getClass() != want) {
                fault(text + " threw " + e + ", due is " + want.getSimpleName());
            }
        }
    }

    void fault(String text) {
        wrong++;
        System.out.println(title + ": " + text);
    }

    int faults() {
        return wrong;
    }

    void end() {
        System.out.println(checks + " checks, " + wrong + " wrong");
        if (wrong != 0) {
            System.exit(1);
        }
    }
}
