import java.util.function.LongSupplier;
import java.util.function.ToLongFunction;

/** The calls of the face as things that can be made on one object and again on another. */
abstract class Calls {
    static final int NONE = -1;
    static final long NO = 0;
    static final long YES = 1;
    static final long FAR = 1_000_000_000L;
    static final int LEAST = Integer.MIN_VALUE;
    static final int GREATEST = Integer.MAX_VALUE;

    /** What a call that throws is said to answer; no call answers so far down. */
    static final long OUT = Long.MIN_VALUE;
    static final long STATE = Long.MIN_VALUE + 1;
    static final long ARGUMENT = Long.MIN_VALUE + 2;

    record Call(String text, ToLongFunction<NetJoins> body) {
        long on(NetJoins x) {
            return answer(() -> body.applyAsLong(x));
        }
    }

    static long answer(LongSupplier call) {
        try {
            return call.getAsLong();
        } catch (RuntimeException e) {
            return thrown(e);
        }
    }

    /**
     * Classes are compared as they are, and the place of the throw is looked at: what the machine or the
     * library throws by itself is passed on, even where a due exception has the same name.
     */
    private static long thrown(RuntimeException e) {
        if (!isThrownByOwnCode(e)) {
            throw e;
        }
        if (e.getClass() == IndexOutOfBoundsException.class) {
            return OUT;
        }
        if (e.getClass() == IllegalStateException.class) {
            return STATE;
        }
        if (e.getClass() == IllegalArgumentException.class) {
            return ARGUMENT;
        }
        throw e;
    }

    private static boolean isThrownByOwnCode(RuntimeException e) {
        StackTraceElement[] trace = e.getStackTrace();
        return trace.length > 0 && !trace[0].getClassName().contains(".");
    }

    static String written(long answer) {
        if (answer == OUT) {
            return "IndexOutOfBoundsException";
        }
        if (answer == STATE) {
            return "IllegalStateException";
        }
        return answer == ARGUMENT ? "IllegalArgumentException" : Long.toString(answer);
    }

    private static Call call(String name, ToLongFunction<NetJoins> body, long... given) {
        StringBuilder text = new StringBuilder(name).append('(');
        for (int i = 0; i < given.length; i++) {
            text.append(i == 0 ? "" : ", ").append(given[i]);
        }
        return new Call(text.append(')').toString(), body);
    }

    private static long number(boolean answer) {
        return answer ? YES : NO;
    }

    static Call sheet(int parent, int of) {
        return call("sheet", x -> x.sheet(parent, of), parent, of);
    }

    static Call wire(int s, long a, long b, long c, long d) {
        return call("wire", x -> x.wire(s, a, b, c, d), s, a, b, c, d);
    }

    static Call junction(int s, long a, long b) {
        return call("junction", x -> number(x.junction(s, a, b)), s, a, b);
    }

    static Call label(int s, long a, long b, int name) {
        return call("label", x -> x.label(s, a, b, name), s, a, b, name);
    }

    static Call pin(int s, long a, long b, int part) {
        return call("pin", x -> x.pin(s, a, b, part), s, a, b, part);
    }

    static Call port(int s, int label, int name) {
        return call("port", x -> number(x.port(s, label, name)), s, label, name);
    }

    static Call bus(int s, int name, int from, int to) {
        return call("bus", x -> number(x.bus(s, name, from, to)), s, name, from, to);
    }

    static Call nets() {
        return call("nets", NetJoins::nets);
    }

    static Call netOf(int pin, int k) {
        return call("netOf", x -> x.netOf(pin, k), pin, k);
    }

    static Call rank(int name, int r) {
        return call("rank", x -> number(x.rank(name, r)), name, r);
    }

    static Call name(int net) {
        return call("name", x -> x.name(net), net);
    }

    static Call drop(int wire) {
        return call("drop", x -> x.drop(wire), wire);
    }

    static Call open(int pin) {
        return call("open", x -> number(x.open(pin)), pin);
    }

    static Call told(int k) {
        return call("told", x -> x.told(k), k);
    }

    static Call same() {
        return call("same", x -> number(x.same()));
    }

    static Call changed(int k) {
        return call("changed", x -> x.changed(k), k);
    }
}
