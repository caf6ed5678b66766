import java.util.function.LongSupplier;

/** Compares answers with those that are due, prints the wrong ones, and ends with exit code 1 then. */
final class Check {
    private String title = "";
    private int checks = 0;
    private int wrong = 0;

    void about(String what) {
        title = what;
    }

    void due(long want, long got, String call) {
        checks++;
        if (want != got) {
            fault(call + " answered " + got + ", due is " + want);
        }
    }

    void yes(boolean got, String call) {
        due(1, got ? 1 : 0, call);
    }

    void no(boolean got, String call) {
        due(0, got ? 1 : 0, call);
    }

    void holds(boolean it, String otherwise) {
        checks++;
        if (!it) {
            fault(otherwise);
        }
    }

    void throwsOut(LongSupplier call, String text) {
        throwsJust(Calls.OUT, call, text);
    }

    void throwsState(LongSupplier call, String text) {
        throwsJust(Calls.STATE, call, text);
    }

    void throwsArgument(LongSupplier call, String text) {
        throwsJust(Calls.ARGUMENT, call, text);
    }

    private void throwsJust(long want, LongSupplier call, String text) {
        long got = Calls.answer(call);
        holds(got == want, text + " answered " + Calls.written(got) + ", due is " + Calls.written(want));
    }

    void fault(String text) {
        wrong++;
        System.out.println(title + ": " + text);
    }

    int faults() {
        return wrong;
    }

    void end() {
        System.out.println(checks + " checks, " + wrong + " wrong");
        if (wrong != 0) {
            System.exit(1);
        }
    }
}
