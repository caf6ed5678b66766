import java.util.ArrayList;
import java.util.Collections;
import java.util.List;
import java.util.Random;
import java.util.function.LongSupplier;

/** Runs of random calls, each answer compared with that of ReferenceNets; the seeds are fixed. */
public final class RandomRunsTest {
    private static final int CALLS = 512;
    private static final int[] NAMES = {0, 1, 2, 3, 4, 5, 898, 899, 900, 901, 999};

    private final Check check;
    private final Random random;
    private final int spread;
    private final long scale;
    private final int sheetBound;
    private final int busReach;
    /** A kind of things that the run has many of, so that runs come to the limits too. */
    private final int favourite;
    private final NetJoins x = new NetJoins();
    private final ReferenceNets y = new ReferenceNets();
    private int sheets = 0;
    private int calls = 0;

    private RandomRunsTest(Check check, long seed) {
        this.check = check;
        random = new Random(seed);
        spread = 2 + random.nextInt(12);
        scale = random.nextInt(4) == 0 ? 1_000_000_000L / Math.max(1, spread / 2) : 1 + random.nextInt(3);
        sheetBound = 1 + random.nextInt(random.nextBoolean() ? 4 : 16);
        busReach = random.nextInt(8) == 0 ? 1000 : 6;
        favourite = random.nextInt(13);
    }

    public static void main(String[] args) {
        Check check = new Check();
        int runs = 250;
        for (int seed = 0; seed < runs && check.faults() < 20; seed++) {
            check.about("seed " + seed);
            new RandomRunsTest(check, seed).run();
        }
        for (int seed = runs; seed < runs + 16 && check.faults() < 20; seed++) {
            check.about("seed " + seed);
            new RandomRunsTest(check, seed).runFull();
        }
        check.end();
    }

    private void compare(String text, LongSupplier got, LongSupplier want) {
        calls++;
        long due = Calls.answer(want);
        long is = Calls.answer(got);
        check.holds(is == due, "call " + calls + ", " + text + " answered " + Calls.written(is)
                + ", due is " + Calls.written(due));
    }

    private void compareYes(String text, BooleanCall got, BooleanCall want) {
        compare(text, () -> got.ask() ? 1 : 0, () -> want.ask() ? 1 : 0);
    }

    private interface BooleanCall {
        boolean ask();
    }

    private boolean rarely() {
        return random.nextInt(40) == 0;
    }

    private long coordinate() {
        if (rarely() && rarely()) {
            return (random.nextBoolean() ? 1 : -1) * (1_000_000_000L + random.nextInt(2));
        }
        return (random.nextInt(spread) - spread / 2) * scale;
    }

    private int someName() {
        return rarely() ? random.nextInt(1004) - 2 : NAMES[random.nextInt(NAMES.length)];
    }

    private int someSheet() {
        return rarely() ? random.nextInt(19) - 2 : random.nextInt(Math.max(1, sheets));
    }

    private int busEnd(int from) {
        return rarely() ? 1000 : Math.max(0, Math.min(999, from + random.nextInt(2 * busReach + 1) - busReach));
    }

    private void run() {
        int last = random.nextBoolean() ? CALLS - 8 : CALLS / 2;
        while (calls < last && check.faults() < 20) {
            boolean grow = sheets == 0 || sheets < sheetBound && random.nextInt(12) == 0;
            if (grow || rarely()) {
                tellSheet();
            }
            tellThing(random.nextInt(3) == 0 ? favourite : random.nextInt(13));
            ask();
        }
        sweep();
    }

    /** Tells as many things of each kind as there can be, and some more, in any order. */
    private void runFull() {
        List<Integer> kinds = new ArrayList<>();
        int[] most = {16, 100, 50, 60, 60, 30, 16, 20};
        for (int kind = 0; kind < most.length; kind++) {
            kinds.addAll(Collections.nCopies(most[kind] + 4, kind));
        }
        Collections.shuffle(kinds, random);
        tellSheet();
        for (int kind : kinds) {
            tellKind(kind);
            if (random.nextInt(4) == 0) {
                ask();
            }
        }
        sweep();
    }

    private void tellKind(int kind) {
        switch (kind) {
            case 0 -> tellSheet();
            case 5 -> tellLikelyPort();
            case 6 -> tellBus(someSheet(), someName());
            case 7 -> tellOther(someName());
            // The other kinds' places among the cases of tellThing.
            default -> tellThing(new int[] {0, 0, 3, 4, 6}[kind]);
        }
    }

    private void tellLikelyPort() {
        int s = someSheet();
        int l = random.nextInt(60);
        for (int i = 0; i < 1000 && !(s >= 0 && s < sheets && y.couldHavePort(s, l)); i++) {
            s = someSheet();
            l = random.nextInt(60);
        }
        tellPort(s, l, someName());
    }

    /** Asks for all there is, in order, as long as the object's calls last. */
    private void sweep() {
        for (int k = 0; calls < CALLS - 4; k++) {
            int i = k;
            compare("told(" + i + ")", () -> x.told(i), () -> y.told(i));
            compare("name(" + i + ")", () -> x.name(i), () -> y.name(i));
            compare("changed(" + i + ")", () -> x.changed(i), () -> y.changed(i));
            compare("netOf(" + i / 3 + ", " + i % 3 + ")", () -> x.netOf(i / 3, i % 3), () -> y.netOf(i / 3, i % 3));
        }
        check.holds(calls <= CALLS, "the run has " + calls + " calls");
    }

    private void tellSheet() {
        int parent = rarely() ? random.nextInt(20) - 3 : random.nextInt(sheets + 1) - 1;
        int of = rarely() ? random.nextInt(20) - 3 : random.nextInt(sheets + 1) - 1;
        compare("sheet(" + parent + ", " + of + ")", () -> x.sheet(parent, of), () -> {
            int told = y.sheet(parent, of);
            sheets = told == -1 ? sheets : sheets + 1;
            return told;
        });
    }

    private void tellThing(int kind) {
        int s = someSheet();
        long a = coordinate();
        long b = coordinate();
        long c = random.nextInt(3) == 0 ? a : coordinate();
        long d = random.nextInt(3) == 0 ? b : coordinate();
        int n = someName();
        String at = "(" + s + ", " + a + ", " + b;
        switch (kind) {
            case 0, 1, 2 -> compare("wire" + at + ", " + c + ", " + d + ")",
                    () -> x.wire(s, a, b, c, d), () -> y.wire(s, a, b, c, d));
            case 3 -> compareYes("junction" + at + ")", () -> x.junction(s, a, b), () -> y.junction(s, a, b));
            case 4, 5 -> compare("label" + at + ", " + n + ")", () -> x.label(s, a, b, n), () -> y.label(s, a, b, n));
            case 6, 7, 8 -> {
                int part = random.nextInt(3) - 1;
                compare("pin" + at + ", " + part + ")", () -> x.pin(s, a, b, part), () -> y.pin(s, a, b, part));
            }
            case 9 -> tellPort(s, random.nextInt(rarely() ? 62 : 12) - (rarely() ? 2 : 0), n);
            case 10 -> tellBus(s, n);
            default -> tellOther(n);
        }
    }

    private void tellPort(int s, int l, int n) {
        compareYes("port(" + s + ", " + l + ", " + n + ")", () -> x.port(s, l, n), () -> y.port(s, l, n));
    }

    private void tellBus(int s, int n) {
        int from = someName();
        int to = busEnd(from);
        compareYes("bus(" + s + ", " + n + ", " + from + ", " + to + ")",
                () -> x.bus(s, n, from, to), () -> y.bus(s, n, from, to));
    }

    private void tellOther(int n) {
        int k = random.nextInt(rarely() ? 102 : 20) - (rarely() ? 2 : 0);
        switch (random.nextInt(3)) {
            case 0 -> compare("drop(" + k + ")", () -> x.drop(k), () -> y.drop(k));
            case 1 -> compareYes("open(" + k + ")", () -> x.open(k), () -> y.open(k));
            default -> {
                int r = rarely() ? random.nextInt(24) - 12 : random.nextInt(5) - 2;
                compareYes("rank(" + n + ", " + r + ")", () -> x.rank(n, r), () -> y.rank(n, r));
            }
        }
    }

    private void ask() {
        int few = random.nextInt(rarely() ? 70 : 8) - (rarely() ? 2 : 0);
        int copy = random.nextInt(rarely() ? 18 : 3) - (rarely() ? 2 : 0);
        switch (random.nextInt(8)) {
            case 0 -> compare("nets()", x::nets, y::nets);
            case 1, 2 -> compare("netOf(" + few + ", " + copy + ")", () -> x.netOf(few, copy), () -> y.netOf(few, copy));
            case 3 -> compare("name(" + few + ")", () -> x.name(few), () -> y.name(few));
            case 4, 5 -> compare("told(" + few + ")", () -> x.told(few), () -> y.told(few));
            case 6 -> compareYes("same()", x::same, y::same);
            default -> compare("changed(" + few + ")", () -> x.changed(few), () -> y.changed(few));
        }
    }
}
