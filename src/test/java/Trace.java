import java.util.ArrayList;
import java.util.List;

/**
 * All that an object can be made to say in the calls that are left to it: first what it answers, then
 * what it takes, which shows the numbers and the room that it has left.
 */
final class Trace extends Calls {
    static final int CALLS = 512;
    private static final int[] NAMES = {0, 1, 5, 7, 899, 900, 999};

    private final NetJoins x;
    private final List<String> answers = new ArrayList<>();
    private int left;

    Trace(NetJoins x, int calls) {
        this.x = x;
        left = CALLS - calls;
        askAll();
        takeOneOfEach();
        turnAll();
        fillUp();
    }

    List<String> answers() {
        return answers;
    }

    /** Below 0 too when no calls are left, so that every loop below ends then. */
    private long ask(Call call) {
        if (left <= 0) {
            return OUT;
        }
        left--;
        long answer = call.on(x);
        answers.add(call.text() + " = " + written(answer));
        return answer;
    }

    private void askAll() {
        long nets = ask(nets());
        ask(same());
        for (int k = 0; k < 40 && ask(changed(k)) >= 0; k++) { }
        for (int k = 0; k < 40 && ask(told(k)) >= 0; k++) { }
        for (int p = 0; p < 60 && ask(netOf(p, 0)) >= 0; p++) {
            for (int k = 1; k < 3 && ask(netOf(p, k)) >= 0; k++) { }
        }
        for (int n = 0; n < Math.min(nets, 40); n++) {
            ask(name(n));
        }
        for (int name : NAMES) {
            ask(rank(name, 0));
        }
    }

    private void takeOneOfEach() {
        ask(sheet(NONE, NONE));
        ask(sheet(0, 0));
        ask(wire(0, FAR - 9, FAR, FAR, FAR));
        ask(label(0, FAR - 8, FAR, 1));
        ask(pin(0, FAR - 7, FAR, 1));
        ask(changed(0));
        ask(told(0));
    }

    private void turnAll() {
        for (int p = 0; p < 60 && ask(open(p)) >= 0; p++) { }
        // A dropped wire throws, as one does that is not there: so all numbers are tried for a while.
        for (int w = 0; w < 12; w++) {
            ask(drop(w));
        }
        ask(drop(99));
        ask(drop(100));
        ask(nets());
    }

    private void fillUp() {
        for (int i = 0; i < 17 && ask(bus(0, 500, i, i)) > 0; i++) { }
        for (int i = 0; i < 51 && ask(junction(0, i, -FAR)) > 0; i++) { }
        long inside = ask(sheet(0, NONE));
        long label = inside < 0 ? NONE : ask(label((int) inside, 0, 0, 500));
        for (int i = 0; label >= 0 && i < 31 && ask(port((int) inside, (int) label, i)) > 0; i++) { }
        ask(nets());
    }
}
