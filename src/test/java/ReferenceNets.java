import java.util.ArrayDeque;
import java.util.ArrayList;
import java.util.Collections;
import java.util.HashMap;
import java.util.HashSet;
import java.util.List;
import java.util.Map;
import java.util.Set;
import java.util.TreeSet;

/**
 * The document once more, as plainly as can be: every question floods a graph of texts that is built
 * from all that was told. It shares no idea with the class that it is compared to.
 */
final class ReferenceNets {
    static final int NONE = -1;

    record Sheet(int parent, int of) { }
    record Wire(int sheet, long x, long y, long x2, long y2) { }
    record Junction(int sheet, long x, long y) { }
    record Label(int sheet, long x, long y, int name) { }
    record Pin(int sheet, long x, long y, int part) { }
    record Port(int sheet, int label, int name) { }
    record Bus(int sheet, int name, int from, int to) { }
    record Copy(int pin, int copy) implements Comparable<Copy> {
        @Override
        public int compareTo(Copy o) {
            return pin != o.pin ? Integer.compare(pin, o.pin) : Integer.compare(copy, o.copy);
        }
    }

    private final List<Sheet> sheets = new ArrayList<>();
    private final List<Wire> wires = new ArrayList<>();
    private final Set<Integer> dropped = new HashSet<>();
    private final List<Junction> junctions = new ArrayList<>();
    private final List<Label> labels = new ArrayList<>();
    private final List<Pin> pins = new ArrayList<>();
    private final List<Port> ports = new ArrayList<>();
    private final List<Bus> buses = new ArrayList<>();
    private final Set<Integer> open = new TreeSet<>();
    private final Map<Integer, Integer> ranks = new HashMap<>();

    private List<TreeSet<Copy>> nets = new ArrayList<>();
    private List<TreeSet<Integer>> names = new ArrayList<>();
    private List<Integer> changed = new ArrayList<>();

    int sheet(int parent, int of) {
        if (parent < -1 || parent >= sheets.size() || of < -1 || of >= sheets.size()) {
            throw new IndexOutOfBoundsException();
        }
        if (of != NONE && sheets.get(of).of != NONE) {
            throw new IllegalStateException();
        }
        if (sheets.size() == 16) {
            return NONE;
        }
        sheets.add(new Sheet(parent, of));
        work();
        return sheets.size() - 1;
    }

    int wire(int sheet, long x, long y, long x2, long y2) {
        lookAt(sheet, x, y, 0);
        lookAt(sheet, x2, y2, 0);
        if (x == x2 && y == y2) {
            throw new IllegalArgumentException();
        }
        if (wires.size() == 100) {
            return NONE;
        }
        wires.add(new Wire(sheet, x, y, x2, y2));
        work();
        return wires.size() - 1;
    }

    boolean junction(int sheet, long x, long y) {
        lookAt(sheet, x, y, 0);
        Junction told = new Junction(sheet, x, y);
        if (junctions.contains(told) || junctions.size() == 50) {
            return false;
        }
        junctions.add(told);
        work();
        return true;
    }

    int label(int sheet, long x, long y, int name) {
        lookAt(sheet, x, y, name);
        if (labels.size() == 60) {
            return NONE;
        }
        labels.add(new Label(sheet, x, y, name));
        work();
        return labels.size() - 1;
    }

    int pin(int sheet, long x, long y, int part) {
        lookAt(sheet, x, y, 0);
        Pin told = new Pin(sheet, x, y, part);
        if (pins.contains(told) || pins.size() == 60) {
            return NONE;
        }
        pins.add(told);
        work();
        return pins.size() - 1;
    }

    boolean port(int sheet, int label, int name) {
        if (sheet < 0 || sheet >= sheets.size() || label < 0 || label >= labels.size()) {
            throw new IndexOutOfBoundsException();
        }
        if (!copies(labels.get(label).sheet).contains(sheet)) {
            throw new IndexOutOfBoundsException();
        }
        if (sheets.get(sheet).parent == NONE) {
            throw new IllegalStateException();
        }
        lookAtName(name);
        Port told = new Port(sheet, label, name);
        if (ports.contains(told) || ports.size() == 30) {
            return false;
        }
        ports.add(told);
        work();
        return true;
    }

    /** For tests that look for a port to tell; no call of the face. */
    boolean couldHavePort(int sheet, int label) {
        return label < labels.size() && copies(labels.get(label).sheet).contains(sheet)
                && sheets.get(sheet).parent != NONE;
    }

    boolean bus(int sheet, int name, int from, int to) {
        lookAt(sheet, 0, 0, name);
        lookAtName(from);
        lookAtName(to);
        Bus told = new Bus(sheet, name, from, to);
        if (buses.contains(told) || buses.size() == 16) {
            return false;
        }
        buses.add(told);
        work();
        return true;
    }

    int nets() {
        return nets.size();
    }

    int netOf(int pin, int k) {
        for (int n = 0; n < nets.size(); n++) {
            if (nets.get(n).contains(new Copy(pin, k))) {
                return n;
            }
        }
        throw new IndexOutOfBoundsException();
    }

    boolean rank(int name, int r) {
        lookAtName(name);
        if (r < -9 || r > 9) {
            throw new IllegalArgumentException();
        }
        Integer had = ranks.put(name, r);
        return (had == null ? 0 : had) != r;
    }

    int name(int net) {
        if (net < 0 || net >= nets.size()) {
            throw new IndexOutOfBoundsException();
        }
        if (names.get(net).isEmpty()) {
            return -1 - nets.get(net).first().pin;
        }
        int highest = Collections.max(names.get(net).stream().map(n -> ranks.getOrDefault(n, 0)).toList());
        return names.get(net).stream().filter(n -> ranks.getOrDefault(n, 0) == highest).findFirst().get();
    }

    int drop(int wire) {
        if (wire < 0 || wire >= wires.size() || !dropped.add(wire)) {
            throw new IndexOutOfBoundsException();
        }
        work();
        return changed.size();
    }

    boolean open(int pin) {
        if (pin < 0 || pin >= pins.size()) {
            throw new IndexOutOfBoundsException();
        }
        return open.remove(pin) ? false : open.add(pin);
    }

    int told(int k) {
        List<Integer> remarks = new ArrayList<>();
        for (int n = 0; n < nets.size(); n++) {
            for (int name : names.get(n)) {
                if (name != name(n)) {
                    remarks.add(1000 * n + name);
                }
            }
        }
        for (int l = 0; l < labels.size(); l++) {
            Label label = labels.get(l);
            boolean held = pins.stream().anyMatch(p -> p.sheet == label.sheet && p.x == label.x && p.y == label.y);
            for (int w = 0; w < wires.size(); w++) {
                held |= goes(w, label.sheet, label.x, label.y);
            }
            if (!held) {
                remarks.add(100_000_000 + l);
            }
        }
        for (int p : open) {
            if (nets.stream().anyMatch(net -> net.size() > 1 && net.stream().anyMatch(c -> c.pin == p))) {
                remarks.add(200_000_000 + p);
            }
        }
        return k < 0 || k >= remarks.size() ? NONE : remarks.get(k);
    }

    boolean same() {
        return true;
    }

    int changed(int k) {
        return k < 0 || k >= changed.size() ? NONE : changed.get(k);
    }

    private void lookAt(int sheet, long x, long y, int name) {
        if (sheet < 0 || sheet >= sheets.size()) {
            throw new IndexOutOfBoundsException();
        }
        if (sheets.get(sheet).of != NONE) {
            throw new IllegalStateException();
        }
        if (Math.max(x, y) > 1_000_000_000L || Math.min(x, y) < -1_000_000_000L) {
            throw new IllegalArgumentException();
        }
        lookAtName(name);
    }

    private static void lookAtName(int name) {
        if (name < 0 || name > 999) {
            throw new IllegalArgumentException();
        }
    }

    private List<Integer> copies(int drawn) {
        List<Integer> all = new ArrayList<>(List.of(drawn));
        for (int s = 0; s < sheets.size(); s++) {
            if (sheets.get(s).of == drawn) {
                all.add(s);
            }
        }
        return all;
    }

    private boolean goes(int w, int sheet, long x, long y) {
        Wire wire = wires.get(w);
        if (wire.sheet != sheet || dropped.contains(w)) {
            return false;
        }
        long along = Math.multiplyExact(x - wire.x, wire.y2 - wire.y);
        long across = Math.multiplyExact(y - wire.y, wire.x2 - wire.x);
        boolean betweenX = wire.x <= x && x <= wire.x2 || wire.x2 <= x && x <= wire.x;
        boolean betweenY = wire.y <= y && y <= wire.y2 || wire.y2 <= y && y <= wire.y;
        return along == across && betweenX && betweenY;
    }

    // ---- the graph: pairs of texts, and a flood over them

    private Map<String, Set<String>> graph = new HashMap<>();

    private void pair(String a, String b) {
        graph.computeIfAbsent(a, n -> new HashSet<>()).add(b);
        graph.computeIfAbsent(b, n -> new HashSet<>()).add(a);
    }

    private static String nameOn(int sheet, int name) {
        return name >= 900 ? "power " + name : "name " + name + " on " + sheet;
    }

    private static String place(int sheet, long x, long y) {
        return "place " + x + "," + y + " on " + sheet;
    }

    private static String wireOn(int wire, int sheet) {
        return "wire " + wire + " on " + sheet;
    }

    private void work() {
        graph = new HashMap<>();
        pairWires();
        pairSpots();
        for (Port port : ports) {
            int parent = sheets.get(port.sheet).parent;
            pair("label " + port.label + " on " + port.sheet, nameOn(parent, port.name));
        }
        pairBuses();
        List<TreeSet<Copy>> before = nets;
        floodNets();
        changed = new ArrayList<>();
        for (int n = 0; n < nets.size(); n++) {
            if (!before.contains(nets.get(n))) {
                changed.add(n);
            }
        }
    }

    private void pairWires() {
        for (int w = 0; w < wires.size(); w++) {
            Wire wire = wires.get(w);
            if (dropped.contains(w)) {
                continue;
            }
            for (int s : copies(wire.sheet)) {
                pair(wireOn(w, s), "end " + wire.x + "," + wire.y + " on " + s);
                pair(wireOn(w, s), "end " + wire.x2 + "," + wire.y2 + " on " + s);
                for (Junction j : junctions) {
                    if (goes(w, j.sheet, j.x, j.y)) {
                        pair(wireOn(w, s), "junction " + j + " on " + s);
                    }
                }
            }
        }
    }

    private void pairSpots() {
        for (int l = 0; l < labels.size(); l++) {
            Label label = labels.get(l);
            for (int s : copies(label.sheet)) {
                pair("label " + l + " on " + s, place(s, label.x, label.y));
                pair("label " + l + " on " + s, nameOn(s, label.name));
                pairWiresThrough(label.sheet, s, label.x, label.y);
            }
        }
        for (int p = 0; p < pins.size(); p++) {
            Pin pin = pins.get(p);
            for (int s : copies(pin.sheet)) {
                pair("pin " + p + " on " + s, place(s, pin.x, pin.y));
                pairWiresThrough(pin.sheet, s, pin.x, pin.y);
            }
        }
    }

    private void pairWiresThrough(int drawn, int sheet, long x, long y) {
        for (int w = 0; w < wires.size(); w++) {
            if (goes(w, drawn, x, y)) {
                pair(wireOn(w, sheet), place(sheet, x, y));
            }
        }
    }

    private void pairBuses() {
        for (Bus bus : buses) {
            for (int s : copies(bus.sheet)) {
                int step = bus.from <= bus.to ? 1 : -1;
                int nth = 0;
                for (int m = bus.from; m != bus.to + step; m += step) {
                    String key = bus.name >= 900 ? "power" : "sheet " + s;
                    pair("bus " + bus.name + " of " + key + " member " + nth, nameOn(s, m));
                    nth++;
                }
            }
        }
    }

    private void floodNets() {
        Map<String, Copy> copyOf = new HashMap<>();
        for (int p = 0; p < pins.size(); p++) {
            List<Integer> on = copies(pins.get(p).sheet);
            for (int k = 0; k < on.size(); k++) {
                copyOf.put("pin " + p + " on " + on.get(k), new Copy(p, k));
            }
        }
        Map<String, Integer> labelName = new HashMap<>();
        for (int l = 0; l < labels.size(); l++) {
            for (int s : copies(labels.get(l).sheet)) {
                labelName.put("label " + l + " on " + s, labels.get(l).name);
            }
        }
        Map<TreeSet<Copy>, TreeSet<Integer>> found = new HashMap<>();
        Set<String> seen = new HashSet<>();
        for (String start : copyOf.keySet()) {
            if (seen.contains(start)) {
                continue;
            }
            TreeSet<Copy> net = new TreeSet<>();
            TreeSet<Integer> itsNames = new TreeSet<>();
            ArrayDeque<String> next = new ArrayDeque<>(List.of(start));
            seen.add(start);
            while (!next.isEmpty()) {
                String at = next.poll();
                if (copyOf.containsKey(at)) {
                    net.add(copyOf.get(at));
                }
                if (labelName.containsKey(at)) {
                    itsNames.add(labelName.get(at));
                }
                for (String n : graph.getOrDefault(at, Set.of())) {
                    if (seen.add(n)) {
                        next.add(n);
                    }
                }
            }
            found.put(net, itsNames);
        }
        nets = new ArrayList<>(found.keySet());
        nets.sort((a, b) -> a.first().compareTo(b.first()));
        names = new ArrayList<>(nets.stream().map(found::get).toList());
    }
}
