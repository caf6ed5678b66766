import java.util.ArrayList;
import java.util.Arrays;

/**
 * Nets of schematics. Two layers of joins are kept: what touches on a drawn sheet is worked out once
 * for all its copies; what is joined by names, ports and buses is worked out for each sheet.
 */
public final class NetJoins {
    /** There is none. */
    public static final int NONE = -1;

    private static final int MOST_SHEETS = 16;
    private static final int MOST_WIRES = 100;
    private static final int MOST_JUNCTIONS = 50;
    private static final int MOST_LABELS = 60;
    private static final int MOST_PINS = 60;
    private static final int MOST_PORTS = 30;
    private static final int MOST_BUSES = 16;
    private static final int NAMES = 1000;
    private static final int FIRST_POWER_NAME = 900;
    private static final int HIGHEST_RANK = 9;
    private static final long FARTHEST = 1_000_000_000L;

    private static final int LOOSE_LABEL = 100_000_000;
    private static final int JOINED_OPEN_PIN = 200_000_000;

    private static final int PIN_COPIES = MOST_PINS * MOST_SHEETS;
    private static final int LABEL_COPIES = MOST_LABELS * MOST_SHEETS;
    private static final int MOST_REMARKS = LABEL_COPIES + MOST_LABELS + MOST_PINS;

    /** Things that touch: pins, then labels, then wires, so that wires are never a root before these. */
    private static final int FIRST_LABEL_THING = MOST_PINS;
    private static final int FIRST_WIRE_THING = FIRST_LABEL_THING + MOST_LABELS;
    private static final int THINGS = FIRST_WIRE_THING + MOST_WIRES;

    private final ArrayList<Sheet> sheets;
    private final ArrayList<Wire> wires;
    private final ArrayList<Spot> junctions;
    private final ArrayList<Spot> labels;
    private final ArrayList<Spot> labelsByName;
    private final ArrayList<Spot> pins;
    private final ArrayList<Port> ports;
    private final ArrayList<Bus> buses;
    private final int[] ranks;

    private final Joins touching;
    private final Joins joined;
    private final NetTable table;

    /** The names of net n stand, rising, in netNames from nameStart[n] on and before nameStart[n + 1]. */
    private final int[] nameStart;
    private final int[] netNames;
    private boolean namesAreListed;

    private final int[] remarks;
    private int remarkCount;
    private boolean remarksAreListed;

    public NetJoins() {
        sheets = new ArrayList<>();
        wires = new ArrayList<>();
        junctions = new ArrayList<>();
        labels = new ArrayList<>();
        labelsByName = new ArrayList<>();
        pins = new ArrayList<>();
        ports = new ArrayList<>();
        buses = new ArrayList<>();
        ranks = new int[NAMES];
        touching = new Joins(1, THINGS);
        joined = new Joins(1 + MOST_SHEETS, PIN_COPIES + NAMES - FIRST_POWER_NAME);
        table = new NetTable();
        nameStart = new int[PIN_COPIES + 1];
        netNames = new int[LABEL_COPIES];
        remarks = new int[MOST_REMARKS];
    }

    // ---- the face: what is told

    public int sheet(int parent, int of) throws IndexOutOfBoundsException, IllegalStateException {
        if (parent != NONE) {
            needSheet(parent);
        }
        if (of != NONE) {
            needDrawn(of);
        }
        int number = sheets.size();
        if (number >= MOST_SHEETS) {
            return NONE;
        }
        Sheet added = of == NONE ? new Sheet(number, parent, number, 0) : repeatOf(of, number, parent);
        sheets.add(added);
        joined.addRow(1 + number, FIRST_POWER_NAME);
        spreadOn(added);
        joinBusesOn(added);
        keepUp();
        return number;
    }

    public int wire(int sheet, long x, long y, long x2, long y2)
            throws IndexOutOfBoundsException, IllegalStateException, IllegalArgumentException {
        needDrawn(sheet);
        needPlace(x, y);
        needPlace(x2, y2);
        if (x == x2 && y == y2) {
            throw new IllegalArgumentException("both ends of the wire are the same place");
        }
        int number = wires.size();
        if (number >= MOST_WIRES) {
            return NONE;
        }
        Wire added = new Wire(sheet, number, x, y, x2, y2);
        wires.add(added);
        joinEnds(added);
        joinThroughJunctions(added);
        joinWithSpots(added, labels);
        joinWithSpots(added, pins);
        spreadOver(sheet);
        keepUp();
        return number;
    }

    public boolean junction(int sheet, long x, long y)
            throws IndexOutOfBoundsException, IllegalStateException, IllegalArgumentException {
        needDrawn(sheet);
        needPlace(x, y);
        if (junctions.size() >= MOST_JUNCTIONS || hasSpotAt(junctions, sheet, x, y)) {
            return false;
        }
        Spot added = new Spot(sheet, x, y, NONE, NONE);
        junctions.add(added);
        joinJunction(added);
        spreadOver(sheet);
        keepUp();
        return true;
    }

    public int label(int sheet, long x, long y, int name)
            throws IndexOutOfBoundsException, IllegalStateException, IllegalArgumentException {
        needDrawn(sheet);
        needPlace(x, y);
        needName(name);
        int number = labels.size();
        if (number >= MOST_LABELS) {
            return NONE;
        }
        Spot added = new Spot(sheet, x, y, name, FIRST_LABEL_THING + number);
        labels.add(added);
        putByName(added);
        joinSpot(added);
        spreadOver(sheet);
        keepUp();
        return number;
    }

    public int pin(int sheet, long x, long y, int part)
            throws IndexOutOfBoundsException, IllegalStateException, IllegalArgumentException {
        needDrawn(sheet);
        needPlace(x, y);
        int number = pins.size();
        if (number >= MOST_PINS || hasPinOf(part, sheet, x, y)) {
            return NONE;
        }
        Spot added = new Spot(sheet, x, y, part, number);
        pins.add(added);
        joinSpot(added);
        spreadOver(sheet);
        keepUp();
        return number;
    }

    public boolean port(int sheet, int label, int name)
            throws IndexOutOfBoundsException, IllegalStateException, IllegalArgumentException {
        needSheet(sheet);
        needLabelOn(sheet, label);
        needParent(sheet);
        needName(name);
        if (ports.size() >= MOST_PORTS || hasPort(sheet, label, name)) {
            return false;
        }
        int inner = nameNode(sheet, labels.get(label).mark);
        int outer = nameNode(sheets.get(sheet).parent, name);
        ports.add(new Port(sheet, label, name, inner, outer));
        joined.join(inner, outer);
        keepUp();
        return true;
    }

    public boolean bus(int sheet, int name, int from, int to)
            throws IndexOutOfBoundsException, IllegalStateException, IllegalArgumentException {
        needDrawn(sheet);
        needName(name);
        needName(from);
        needName(to);
        int number = buses.size();
        if (number >= MOST_BUSES || hasBus(sheet, name, from, to)) {
            return false;
        }
        buses.add(new Bus(sheet, name, from, to));
        for (int s = 0; s < sheets.size(); s++) {
            if (sheets.get(s).drawn == sheet) {
                joinBus(number, s);
            }
        }
        keepUp();
        return true;
    }

    public boolean rank(int name, int r) throws IllegalArgumentException {
        needName(name);
        if (r < -HIGHEST_RANK || r > HIGHEST_RANK) {
            throw new IllegalArgumentException("no rank");
        }
        if (ranks[name] == r) {
            return false;
        }
        ranks[name] = r;
        remarksAreListed = false;
        return true;
    }

    public int drop(int wire) throws IndexOutOfBoundsException {
        if (wire < 0 || wire >= wires.size() || wires.get(wire).dropped) {
            throw new IndexOutOfBoundsException("no such wire");
        }
        wires.get(wire).dropped = true;
        joinAnew();
        keepUp();
        return table.changedCount();
    }

    public boolean open(int pin) throws IndexOutOfBoundsException {
        needPin(pin);
        Spot turned = pins.get(pin);
        turned.open = !turned.open;
        remarksAreListed = false;
        return turned.open;
    }

    // ---- the face: what is asked

    public int nets() {
        return table.count;
    }

    public int netOf(int pin, int k) throws IndexOutOfBoundsException {
        needPin(pin);
        if (k < 0 || k >= copiesOf(pins.get(pin).sheet)) {
            throw new IndexOutOfBoundsException("no such copy");
        }
        return table.net[pinNode(pin, k)];
    }

    public int name(int net) throws IndexOutOfBoundsException {
        if (net < 0 || net >= table.count) {
            throw new IndexOutOfBoundsException("no such net");
        }
        listNames();
        int best = bestName(net);
        return best != NONE ? best : -1 - table.leastPin(net);
    }

    public int told(int k) {
        listRemarks();
        return k >= 0 && k < remarkCount ? remarks[k] : NONE;
    }

    public boolean same() {
        table.remember();
        joinAnew();
        countNets();
        return table.isAsRemembered();
    }

    public int changed(int k) {
        return table.changedNet(k);
    }

    // ---- what calls look at first

    private void needSheet(int sheet) {
        if (sheet < 0 || sheet >= sheets.size()) {
            throw new IndexOutOfBoundsException("no such sheet");
        }
    }

    private void needDrawn(int sheet) {
        needSheet(sheet);
        if (sheets.get(sheet).drawn != sheet) {
            throw new IllegalStateException("the sheet is not drawn");
        }
    }

    private void needParent(int sheet) {
        if (sheets.get(sheet).parent == NONE) {
            throw new IllegalStateException("the sheet has no parent");
        }
    }

    private void needLabelOn(int sheet, int label) {
        if (label < 0 || label >= labels.size() || labels.get(label).sheet != sheets.get(sheet).drawn) {
            throw new IndexOutOfBoundsException("no such label on the sheet");
        }
    }

    private void needPin(int pin) {
        if (pin < 0 || pin >= pins.size()) {
            throw new IndexOutOfBoundsException("no such pin");
        }
    }

    private static void needPlace(long x, long y) {
        if (x < -FARTHEST || x > FARTHEST || y < -FARTHEST || y > FARTHEST) {
            throw new IllegalArgumentException("no place");
        }
    }

    private static void needName(int name) {
        if (name < 0 || name >= NAMES) {
            throw new IllegalArgumentException("no name");
        }
    }

    // ---- what is there already

    private static boolean hasSpotAt(ArrayList<Spot> spots, int sheet, long x, long y) {
        for (int i = 0; i < spots.size(); i++) {
            if (spots.get(i).isAt(sheet, x, y)) {
                return true;
            }
        }
        return false;
    }

    private boolean hasPinOf(int part, int sheet, long x, long y) {
        for (int i = 0; i < pins.size(); i++) {
            Spot there = pins.get(i);
            if (there.mark == part && there.isAt(sheet, x, y)) {
                return true;
            }
        }
        return false;
    }

    private boolean hasPort(int sheet, int label, int name) {
        for (int i = 0; i < ports.size(); i++) {
            Port there = ports.get(i);
            if (there.sheet == sheet && there.label == label && there.name == name) {
                return true;
            }
        }
        return false;
    }

    private boolean hasBus(int sheet, int name, int from, int to) {
        for (int i = 0; i < buses.size(); i++) {
            Bus there = buses.get(i);
            if (there.sheet == sheet && there.name == name && there.from == from && there.to == to) {
                return true;
            }
        }
        return false;
    }

    // ---- sheets and their copies

    private Sheet repeatOf(int of, int number, int parent) {
        Sheet repeated = sheets.get(of);
        Sheet repeat = new Sheet(number, parent, of, repeated.copies);
        repeated.copies++;
        return repeat;
    }

    private int copiesOf(int drawn) {
        return drawn >= 0 && drawn < sheets.size() ? sheets.get(drawn).copies : 0;
    }

    // ---- what touches on a drawn sheet

    /** Wires are told one after the other, so that each looks back at the earlier ones alone. */
    private void joinEnds(Wire wire) {
        for (int i = 0; i < wire.number; i++) {
            Wire other = wires.get(i);
            if (other.isOn(wire.sheet) && wire.hasCommonEnd(other)) {
                touching.join(thingOf(wire), thingOf(other));
            }
        }
    }

    private void joinThroughJunctions(Wire wire) {
        for (int i = 0; i < junctions.size(); i++) {
            if (wire.goesThrough(junctions.get(i))) {
                joinJunction(junctions.get(i));
            }
        }
    }

    private void joinJunction(Spot junction) {
        int first = NONE;
        for (int i = 0; i < wires.size(); i++) {
            Wire wire = wires.get(i);
            if (wire.goesThrough(junction)) {
                if (first == NONE) {
                    first = thingOf(wire);
                }
                touching.join(first, thingOf(wire));
            }
        }
    }

    private void joinWithSpots(Wire wire, ArrayList<Spot> spots) {
        for (int i = 0; i < spots.size(); i++) {
            if (wire.goesThrough(spots.get(i))) {
                touching.join(thingOf(wire), spots.get(i).thing);
            }
        }
    }

    private void joinSpot(Spot spot) {
        for (int i = 0; i < wires.size(); i++) {
            if (wires.get(i).goesThrough(spot)) {
                touching.join(thingOf(wires.get(i)), spot.thing);
            }
        }
        joinSamePlace(spot, labels);
        joinSamePlace(spot, pins);
    }

    private void joinSamePlace(Spot spot, ArrayList<Spot> spots) {
        for (int i = 0; i < spots.size(); i++) {
            Spot other = spots.get(i);
            if (other.isAt(spot.sheet, spot.x, spot.y)) {
                touching.join(spot.thing, other.thing);
            }
        }
    }

    private static int thingOf(Wire wire) {
        return FIRST_WIRE_THING + wire.number;
    }

    // ---- what is joined on all sheets

    private static int pinNode(int pin, int copy) {
        return pin * MOST_SHEETS + copy;
    }

    private static boolean isPower(int name) {
        return name >= FIRST_POWER_NAME;
    }

    private static int nameNode(int sheet, int name) {
        return isPower(name) ? PIN_COPIES + name - FIRST_POWER_NAME : Joins.node(1 + sheet, name);
    }

    /** A label's copy needs no node of its own: it is always joined to its name on that sheet. */
    private int nodeOn(Sheet sheet, int thing) {
        if (thing < FIRST_LABEL_THING) {
            return pinNode(thing, sheet.copy);
        }
        int label = thing - FIRST_LABEL_THING;
        return label < labels.size() ? nameNode(sheet.number, labels.get(label).mark) : NONE;
    }

    private void spreadOver(int drawn) {
        for (int i = 0; i < sheets.size(); i++) {
            if (sheets.get(i).drawn == drawn) {
                spreadOn(sheets.get(i));
            }
        }
    }

    private void spreadOn(Sheet sheet) {
        spreadSpots(sheet, pins);
        spreadSpots(sheet, labels);
    }

    private void spreadSpots(Sheet sheet, ArrayList<Spot> spots) {
        for (int i = 0; i < spots.size(); i++) {
            Spot spot = spots.get(i);
            if (spot.sheet == sheet.drawn) {
                joined.join(nodeOn(sheet, spot.thing), nodeOn(sheet, touching.root(spot.thing)));
            }
        }
    }

    private void joinBusesOn(Sheet sheet) {
        for (int b = 0; b < buses.size(); b++) {
            if (buses.get(b).sheet == sheet.drawn) {
                joinBus(b, sheet.number);
            }
        }
    }

    /**
     * The longest earlier bus of the same name has a member wherever any earlier one has, so joining
     * to it alone joins to all of them; a power bus's repeats are joined by way of the drawn one.
     */
    private void joinBus(int number, int sheet) {
        Bus bus = buses.get(number);
        boolean power = isPower(bus.name);
        if (power && sheet != bus.sheet) {
            joinMembers(bus, sheet, bus, bus.sheet);
            return;
        }
        Bus longest = longestBefore(number);
        if (longest != null) {
            joinMembers(bus, sheet, longest, power ? longest.sheet : sheet);
        }
    }

    private Bus longestBefore(int number) {
        Bus bus = buses.get(number);
        Bus longest = null;
        for (int i = 0; i < number; i++) {
            Bus other = buses.get(i);
            boolean meets = other.name == bus.name && (isPower(bus.name) || other.sheet == bus.sheet);
            if (meets && (longest == null || other.length() > longest.length())) {
                longest = other;
            }
        }
        return longest;
    }

    private void joinMembers(Bus one, int sheet, Bus other, int otherSheet) {
        int shared = Math.min(one.length(), other.length());
        for (int i = 0; i < shared; i++) {
            joined.join(nameNode(sheet, one.member(i)), nameNode(otherSheet, other.member(i)));
        }
    }

    // ---- nets

    private void joinAnew() {
        touchAnew();
        joined.scatter();
        for (int i = 0; i < sheets.size(); i++) {
            spreadOn(sheets.get(i));
            joinBusesOn(sheets.get(i));
        }
        for (int i = 0; i < ports.size(); i++) {
            joined.join(ports.get(i).inner, ports.get(i).outer);
        }
    }

    private void touchAnew() {
        touching.scatter();
        for (int i = 0; i < wires.size(); i++) {
            if (!wires.get(i).dropped) {
                joinEnds(wires.get(i));
            }
        }
        for (int i = 0; i < junctions.size(); i++) {
            joinJunction(junctions.get(i));
        }
        for (int i = 0; i < labels.size(); i++) {
            joinSpot(labels.get(i));
        }
        for (int i = 0; i < pins.size(); i++) {
            joinSpot(pins.get(i));
        }
    }

    private void keepUp() {
        table.remember();
        countNets();
        table.markChanges();
        namesAreListed = false;
        remarksAreListed = false;
    }

    private void countNets() {
        table.begin();
        for (int p = 0; p < pins.size(); p++) {
            int copies = copiesOf(pins.get(p).sheet);
            for (int copy = 0; copy < copies; copy++) {
                int node = pinNode(p, copy);
                table.put(node, joined.root(node));
            }
        }
    }

    // ---- names and remarks

    private void putByName(Spot label) {
        int at = 0;
        while (at < labelsByName.size() && labelsByName.get(at).mark <= label.mark) {
            at++;
        }
        labelsByName.add(at, label);
    }

    private int netOfLabel(Spot label, Sheet sheet) {
        if (sheet.drawn != label.sheet) {
            return NONE;
        }
        int root = joined.root(nameNode(sheet.number, label.mark));
        return root < PIN_COPIES ? table.net[root] : NONE;
    }

    /** A counting sort: filled from the highest name down, each net's names come to stand rising. */
    private void listNames() {
        if (namesAreListed) {
            return;
        }
        Arrays.fill(nameStart, 0);
        for (int i = labelsByName.size() - 1; i >= 0; i--) {
            for (int s = 0; s < sheets.size(); s++) {
                int net = netOfLabel(labelsByName.get(i), sheets.get(s));
                if (net != NONE) {
                    nameStart[net]++;
                }
            }
        }
        for (int net = 1; net <= table.count; net++) {
            nameStart[net] += nameStart[net - 1];
        }
        for (int i = labelsByName.size() - 1; i >= 0; i--) {
            for (int s = 0; s < sheets.size(); s++) {
                int net = netOfLabel(labelsByName.get(i), sheets.get(s));
                if (net != NONE) {
                    nameStart[net]--;
                    netNames[nameStart[net]] = labelsByName.get(i).mark;
                }
            }
        }
        namesAreListed = true;
    }

    /** Names stand rising, so the first one of the highest rank is the least one. */
    private int bestName(int net) {
        int best = NONE;
        for (int i = nameStart[net]; i < nameStart[net + 1]; i++) {
            if (best == NONE || ranks[netNames[i]] > ranks[best]) {
                best = netNames[i];
            }
        }
        return best;
    }

    private void listRemarks() {
        if (remarksAreListed) {
            return;
        }
        listNames();
        remarkCount = 0;
        for (int net = 0; net < table.count; net++) {
            remarkOtherNames(net);
        }
        for (int l = 0; l < labels.size(); l++) {
            if (isLoose(labels.get(l))) {
                remark(LOOSE_LABEL + l);
            }
        }
        for (int p = 0; p < pins.size(); p++) {
            if (pins.get(p).open && isJoinedToAnother(p)) {
                remark(JOINED_OPEN_PIN + p);
            }
        }
        remarksAreListed = true;
    }

    private void remark(int what) {
        if (remarkCount < remarks.length) {
            remarks[remarkCount] = what;
            remarkCount++;
        }
    }

    private void remarkOtherNames(int net) {
        int best = bestName(net);
        int last = NONE;
        for (int i = nameStart[net]; i < nameStart[net + 1]; i++) {
            int name = netNames[i];
            if (name != best && name != last) {
                remark(1000 * net + name);
            }
            last = name;
        }
    }

    private boolean isLoose(Spot label) {
        if (hasSpotAt(pins, label.sheet, label.x, label.y)) {
            return false;
        }
        for (int i = 0; i < wires.size(); i++) {
            if (wires.get(i).goesThrough(label)) {
                return false;
            }
        }
        return true;
    }

    private boolean isJoinedToAnother(int pin) {
        int copies = copiesOf(pins.get(pin).sheet);
        for (int copy = 0; copy < copies; copy++) {
            if (table.size[table.net[pinNode(pin, copy)]] > 1) {
                return true;
            }
        }
        return false;
    }

    // ---- classes inside

    private static final class Sheet {
        final int number;
        final int parent;
        /** The sheet whose things these are: itself, or the one that it repeats. */
        final int drawn;
        final int copy;
        int copies;

        Sheet(int number, int parent, int drawn, int copy) {
            this.number = number;
            this.parent = parent;
            this.drawn = drawn;
            this.copy = copy;
            this.copies = 1;
        }
    }

    /** A junction, a label or a pin. */
    private static final class Spot {
        final int sheet;
        final long x;
        final long y;
        /** A label's name, or a pin's part. */
        final int mark;
        final int thing;
        boolean open;

        Spot(int sheet, long x, long y, int mark, int thing) {
            this.sheet = sheet;
            this.x = x;
            this.y = y;
            this.mark = mark;
            this.thing = thing;
        }

        boolean isAt(int otherSheet, long otherX, long otherY) {
            return sheet == otherSheet && x == otherX && y == otherY;
        }
    }

    private static final class Wire {
        final int sheet;
        final int number;
        final long x;
        final long y;
        final long x2;
        final long y2;
        boolean dropped;

        Wire(int sheet, int number, long x, long y, long x2, long y2) {
            this.sheet = sheet;
            this.number = number;
            this.x = x;
            this.y = y;
            this.x2 = x2;
            this.y2 = y2;
        }

        boolean isOn(int otherSheet) {
            return !dropped && sheet == otherSheet;
        }

        boolean hasEnd(long endX, long endY) {
            return x == endX && y == endY || x2 == endX && y2 == endY;
        }

        boolean hasCommonEnd(Wire other) {
            return hasEnd(other.x, other.y) || hasEnd(other.x2, other.y2);
        }

        /** Places lie within a billion of 0, so each product stays below 2 to the 62nd. */
        boolean goesThrough(Spot spot) {
            return isOn(spot.sheet)
                    && spot.x >= Math.min(x, x2) && spot.x <= Math.max(x, x2)
                    && spot.y >= Math.min(y, y2) && spot.y <= Math.max(y, y2)
                    && (x2 - x) * (spot.y - y) == (y2 - y) * (spot.x - x);
        }
    }

    private static final class Port {
        final int sheet;
        final int label;
        final int name;
        /** The nodes that it joins: the label's name on the sheet, and the name on the parent. */
        final int inner;
        final int outer;

        Port(int sheet, int label, int name, int inner, int outer) {
            this.sheet = sheet;
            this.label = label;
            this.name = name;
            this.inner = inner;
            this.outer = outer;
        }
    }

    private static final class Bus {
        final int sheet;
        final int name;
        final int from;
        final int to;

        Bus(int sheet, int name, int from, int to) {
            this.sheet = sheet;
            this.name = name;
            this.from = from;
            this.to = to;
        }

        int length() {
            return Math.abs(to - from) + 1;
        }

        int member(int i) {
            return from <= to ? from + i : from - i;
        }
    }

    /**
     * Sets of nodes. The root of a set is its least node: so a set with a pin's copy in it has the
     * least one as its root, and that is the order of nets too. Rows are made when they are needed.
     */
    private static final class Joins {
        private static final int ROW_BITS = 11;
        private static final int COLUMN_MASK = (1 << ROW_BITS) - 1;
        private static final int MOST_STEPS = 1_000_000;

        private final int[][] up;

        Joins(int rows, int firstRow) {
            up = new int[rows][0];
            up[0] = new int[firstRow];
            scatterRow(0);
        }

        static int node(int row, int column) {
            return (row << ROW_BITS) + column;
        }

        void addRow(int row, int length) {
            if (row >= 0 && row < up.length && length >= 0) {
                up[row] = new int[length];
                scatterRow(row);
            }
        }

        void scatter() {
            for (int row = 0; row < up.length; row++) {
                scatterRow(row);
            }
        }

        private void scatterRow(int row) {
            int[] nodes = up[row];
            for (int column = 0; column < nodes.length; column++) {
                nodes[column] = node(row, column);
            }
        }

        private boolean has(int node) {
            int row = node >> ROW_BITS;
            return row >= 0 && row < up.length && (node & COLUMN_MASK) < up[row].length;
        }

        int root(int node) {
            return has(node) ? climb(node) : node;
        }

        private int climb(int node) {
            int at = node;
            for (int step = 0; step < MOST_STEPS; step++) {
                int above = up[at >> ROW_BITS][at & COLUMN_MASK];
                if (above == at) {
                    break;
                }
                // Halving the way up keeps later ways short.
                int next = up[above >> ROW_BITS][above & COLUMN_MASK];
                up[at >> ROW_BITS][at & COLUMN_MASK] = next;
                at = next;
            }
            return at;
        }

        void join(int one, int other) {
            if (!has(one) || !has(other)) {
                return;
            }
            int a = climb(one);
            int b = climb(other);
            int low = Math.min(a, b);
            int high = Math.max(a, b);
            up[high >> ROW_BITS][high & COLUMN_MASK] = low;
        }
    }

    /** Nets by the nodes of pins' copies. */
    private static final class NetTable {
        /** The least copy of a pin in the same net; NONE where there is no such copy yet. */
        private final int[] least;
        private final int[] leastBefore;
        final int[] net;
        final int[] size;
        private final boolean[] isChanged;
        int count;
        /** No copy has come yet from here on; this spares most calls most of the rows. */
        private int used;

        NetTable() {
            least = new int[PIN_COPIES];
            leastBefore = new int[PIN_COPIES];
            net = new int[PIN_COPIES];
            size = new int[PIN_COPIES];
            isChanged = new boolean[PIN_COPIES];
            Arrays.fill(least, NONE);
        }

        void remember() {
            System.arraycopy(least, 0, leastBefore, 0, least.length);
        }

        boolean isAsRemembered() {
            for (int i = 0; i < used; i++) {
                if (least[i] != leastBefore[i]) {
                    return false;
                }
            }
            return true;
        }

        void begin() {
            Arrays.fill(size, 0);
            count = 0;
        }

        /** Copies come rising, so that the least one of a net has its number before the others ask. */
        void put(int copy, int root) {
            used = Math.max(used, copy + 1);
            least[copy] = root;
            if (root == copy) {
                net[copy] = count;
                count++;
            } else {
                net[copy] = net[root];
            }
            size[net[copy]]++;
        }

        /**
         * A copy that came or went changes the net it is in now, and the one it left; where the least
         * one of that is no longer the least, it went too, and so its net is marked anyway.
         */
        void markChanges() {
            for (int i = 0; i < used; i++) {
                isChanged[i] = false;
            }
            for (int i = 0; i < used; i++) {
                int before = leastBefore[i];
                if (least[i] != before) {
                    isChanged[net[i]] = true;
                    if (before != NONE) {
                        isChanged[net[before]] = true;
                    }
                }
            }
        }

        int changedCount() {
            int changes = 0;
            for (int i = 0; i < count; i++) {
                if (isChanged[i]) {
                    changes++;
                }
            }
            return changes;
        }

        int changedNet(int k) {
            int passed = 0;
            for (int i = 0; i < count; i++) {
                if (isChanged[i]) {
                    if (passed == k) {
                        return i;
                    }
                    passed++;
                }
            }
            return NONE;
        }

        int leastPin(int wanted) {
            for (int i = 0; i < used; i++) {
                if (least[i] == i && net[i] == wanted) {
                    return i / MOST_SHEETS;
                }
            }
            return NONE;
        }
    }
}
