import java.util.ArrayList;
import java.util.List;

/**
 * An object with the calls that it has taken, so that it can be made again as it stands: once with a
 * refused call and once without it, to see that both answer alike ever after.
 */
final class Drawing extends Calls {
    private final Check check;
    private final NetJoins x = new NetJoins();
    private final List<Call> taken = new ArrayList<>();
    private int calls = 0;

    Drawing(Check check, Call... first) {
        this.check = check;
        tell(first);
    }

    /** Calls that are no matter of the test; none of them may be refused. */
    void tell(Call... all) {
        for (Call call : all) {
            long answer = made(call);
            if (answer < 0) {
                check.fault("while it is set up, " + call.text() + " answered " + written(answer));
            }
            taken.add(call);
        }
    }

    void takes(long want, Call call) {
        asks(want, call);
        taken.add(call);
    }

    void asks(long want, Call call) {
        compare(want, made(call), call.text());
    }

    /** A call whose answer is no matter of the test. */
    void asksAny(Call call) {
        made(call);
    }

    void joins(int pin, int copy, int pin2, int copy2) {
        check.holds(inOneNet(pin, copy, pin2, copy2), between(pin, copy, pin2, copy2) + " are not joined");
    }

    void parts(int pin, int copy, int pin2, int copy2) {
        check.holds(!inOneNet(pin, copy, pin2, copy2), between(pin, copy, pin2, copy2) + " are joined");
    }

    private boolean inOneNet(int pin, int copy, int pin2, int copy2) {
        return made(netOf(pin, copy)) == made(netOf(pin2, copy2));
    }

    private static String between(int pin, int copy, int pin2, int copy2) {
        return "copy " + copy + " of pin " + pin + " and copy " + copy2 + " of pin " + pin2;
    }

    void refuses(long want, Call call) {
        asks(want, call);
        List<String> with = answers(call);
        List<String> without = answers(null);
        int at = 0;
        while (at < with.size() && at < without.size() && with.get(at).equals(without.get(at))) {
            at++;
        }
        check.holds(at == with.size() && at == without.size(), call.text() + " has changed something: after it "
                + with.subList(at, Math.min(at + 1, with.size())) + ", without it "
                + without.subList(at, Math.min(at + 1, without.size())));
    }

    int callCount() {
        return calls;
    }

    private long made(Call call) {
        calls++;
        if (calls > Trace.CALLS) {
            check.fault("the test makes more than " + Trace.CALLS + " calls: " + call.text());
        }
        return call.on(x);
    }

    private void compare(long want, long got, String text) {
        check.holds(want == got, text + " answered " + written(got) + ", due is " + written(want));
    }

    /** What a new object answers that has taken all that this one has, and then, if there is one, the call. */
    private List<String> answers(Call refused) {
        NetJoins again = new NetJoins();
        for (Call call : taken) {
            call.on(again);
        }
        if (refused != null) {
            refused.on(again);
        }
        return new Trace(again, taken.size() + 1).answers();
    }
}
