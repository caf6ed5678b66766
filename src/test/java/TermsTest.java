/**
 * The sentences of the document's Terms that have an edge: what is just joined and what just not, on
 * which sheets, what a net's number and name are where two could be, and how remarks begin and end.
 */
public final class TermsTest extends Calls {
    private static final Check check = new Check();
    /** The eight directions, and some that no grid has. */
    private static final long[][] WAYS = {
        {1, 0}, {1, 1}, {0, 1}, {-1, 1}, {-1, 0}, {-1, -1}, {0, -1}, {1, -1}, {2, 1}, {-3, 7}, {5, -4}};

    public static void main(String[] args) {
        copiesByOrderOfRepeats();
        repeatsHaveAllNowAndLater();
        wiresWithACommonEnd();
        wiresThatOnlyCross();
        placesOnAWire();
        placesOnTheLongestWire();
        junctionsOnWires();
        junctionsOfOneSheet();
        samePlace();
        thingsAreApart();
        droppedWires();
        namesOfOneSheet();
        powerNames();
        powerNamesAreApart();
        namesOfSheetsAreApart();
        portsOfOneSheet();
        portsToTheParent();
        portsOfPowerNames();
        portsBetweenRepeats();
        busesUpAndDown();
        busesOfUnlikeLengths();
        busesOfOneMember();
        busesOfAllNames();
        busesOfOneSheet();
        busesOfPowerNames();
        busesOnRepeats();
        busesAndLaterSheets();
        busesThatNeverMeet();
        joinedToTheSame();
        netsByLeastPin();
        netsByLowestCopy();
        namesByRank();
        namesWithoutLabels();
        namesOfLabelsElsewhere();
        namesOfNoNet();
        remarksOfOtherNames();
        remarksOfLabels();
        remarksOfOpenPins();
        remarksInOrder();
        remarksOfAll();
        changedNets();
        changedNumbers();
        check.end();
    }

    private static Drawing drawing(String sentence, Call... first) {
        check.about(sentence);
        return new Drawing(check, first);
    }

    private static Drawing oneSheet(String sentence, Call... first) {
        Drawing d = drawing(sentence, sheet(NONE, NONE));
        d.tell(first);
        return d;
    }

    /** Sheet 0, in it sheet 1, and sheet 2, which repeats sheet 1, in sheet 0 too. */
    private static Drawing threeSheets(String sentence, Call... first) {
        Drawing d = drawing(sentence, sheet(NONE, NONE), sheet(0, NONE), sheet(0, 1));
        d.tell(first);
        return d;
    }

    /** A pin and a label of each name, from the first to the last, at a place of their own. */
    private static void tellNamed(Drawing d, int sheet, int first, int last) {
        for (int name = first; name <= last; name++) {
            d.tell(pin(sheet, name, 0, 1), label(sheet, name, 0, name));
        }
    }

    // ---- sheets

    private static void copiesByOrderOfRepeats() {
        Drawing d = drawing("copy 1 on its first repeat, and so on", sheet(NONE, NONE), sheet(0, NONE),
                sheet(0, 0), sheet(1, 1), sheet(3, 0), pin(0, 0, 0, 1), label(0, 0, 0, 5),
                sheet(2, NONE), pin(5, 0, 0, 1), label(5, 0, 0, 6),
                sheet(4, NONE), pin(6, 0, 0, 1), label(6, 0, 0, 7), port(5, 1, 5), port(6, 2, 5));
        // Sheet 2 is the first repeat of sheet 0, sheet 4 the second one.
        d.joins(0, 1, 1, 0);
        d.joins(0, 2, 2, 0);
        d.asks(3, nets());
        d.refuses(OUT, netOf(0, 3));
    }

    private static void repeatsHaveAllNowAndLater() {
        Drawing d = drawing("repeats of a drawn one, with all that this one has, now and later",
                sheet(NONE, NONE), pin(0, 0, 0, 1), pin(0, 9, 0, 1), wire(0, 0, 0, 9, 9));
        d.takes(1, sheet(NONE, 0));
        d.asks(4, nets());
        d.takes(1, wire(0, 9, 0, 0, 9));
        d.asks(4, nets());
        d.takes(2, pin(0, 9, 9, 1));
        d.asks(4, nets());
        d.joins(0, 1, 2, 1);
        d.takes(0, label(0, 0, 9, 5));
        d.takes(1, label(0, 9, 9, 6));
        d.takes(YES, bus(0, 3, 5, 5));
        d.asks(4, nets());
        d.takes(YES, bus(0, 3, 6, 6));
        d.asks(2, nets());
        d.takes(2, sheet(NONE, 0));
        d.joins(0, 2, 1, 2);
        d.joins(0, 2, 2, 2);
        d.asks(3, nets());
        d.takes(6, drop(0));
        d.joins(1, 2, 2, 2);
        d.parts(0, 2, 1, 2);
    }

    // ---- wires, junctions and places

    private static void wiresWithACommonEnd() {
        for (int turned = 0; turned < 4; turned++) {
            boolean one = turned % 2 == 0;
            boolean two = turned / 2 == 0;
            Drawing d = oneSheet("two wires with a common end, turned " + turned,
                    pin(0, 0, 0, 1), pin(0, 20, 1, 1),
                    one ? wire(0, 0, 0, 10, 7) : wire(0, 10, 7, 0, 0),
                    two ? wire(0, 20, 1, 10, 7) : wire(0, 10, 7, 20, 1));
            d.joins(0, 0, 1, 0);
        }
        for (long[] off : new long[][] {{1, 0}, {-1, 0}, {0, 1}, {0, -1}}) {
            Drawing d = oneSheet("no common end, one beside", pin(0, 0, 0, 1), pin(0, 20, 1, 1),
                    wire(0, 0, 0, 10, 7), wire(0, 10 + off[0], 7 + off[1], 20, 1));
            d.parts(0, 0, 1, 0);
        }
        Drawing d = oneSheet("no common end, the numbers change places", pin(0, 0, 0, 1), pin(0, 20, 1, 1),
                wire(0, 0, 0, 10, 7), wire(0, 7, 10, 20, 1), wire(0, 10, 8, 20, 1), wire(0, 9, 7, 20, 1));
        d.parts(0, 0, 1, 0);
        Drawing e = drawing("a common end on each sheet for itself", sheet(NONE, NONE), sheet(NONE, NONE),
                pin(0, 0, 0, 1), pin(1, 20, 0, 1), wire(0, 0, 0, 10, 0), wire(1, 10, 0, 20, 0));
        e.parts(0, 0, 1, 0);
    }

    private static void wiresThatOnlyCross() {
        Drawing d = oneSheet("wires that cross, touch or lie on one another are not joined",
                pin(0, 0, 0, 1), wire(0, 0, 0, 20, 0),
                pin(0, 10, 5, 1), wire(0, 10, 5, 10, -5),
                pin(0, 15, 5, 1), wire(0, 15, 5, 15, 0));
        d.asks(3, nets());
        Drawing e = oneSheet("wires that lie on one another", pin(0, 0, 0, 1), wire(0, 0, 0, 20, 0),
                wire(0, 5, 0, 25, 0), pin(0, 25, 0, 1));
        e.asks(2, nets());
        e.tell(wire(0, 20, 0, 25, 0));
        e.asks(1, nets());
    }

    /** A wire of four steps: what lies on its ends and between them, and what not. */
    private static void placesOnAWire() {
        for (long[] way : WAYS) {
            long x = 3;
            long y = -2;
            for (int steps = -1; steps <= 5; steps++) {
                long px = x + steps * way[0];
                long py = y + steps * way[1];
                boolean on = steps >= 0 && steps <= 4;
                placeOnAWire(on, px, py, wire(0, x, y, x + 4 * way[0], y + 4 * way[1]));
                placeOnAWire(false, px - way[1], py + way[0], wire(0, x, y, x + 4 * way[0], y + 4 * way[1]));
                placeOnAWire(false, px + way[1], py - way[0], wire(0, x, y, x + 4 * way[0], y + 4 * way[1]));
            }
        }
    }

    /** Each of the two may be told first, and the second wire shows whether the place is on the first. */
    private static void placeOnAWire(boolean on, long x, long y, Call wire) {
        String sentence = "a label or a pin and a wire that goes through its place " + x + ", " + y + ": " + wire.text();
        Drawing d = oneSheet(sentence, pin(0, x, y, 1), pin(0, x, y, 2), label(0, x, y, 5), wire);
        Drawing e = oneSheet(sentence, wire, label(0, x, y, 5));
        d.asks(NONE, told(0));
        e.asks(on ? NONE : 100_000_000, told(0));
        Drawing f = oneSheet(sentence, wire, pin(0, x, y, 1), label(0, 3, -2, 5));
        f.asks(on ? 5 : -1, name(0));
        Drawing g = oneSheet(sentence, pin(0, x, y, 1), label(0, 3, -2, 5), wire);
        g.asks(on ? 5 : -1, name(0));
        Drawing h = oneSheet(sentence, pin(0, 3, -2, 1), wire, label(0, x, y, 5));
        h.asks(on ? 5 : -1, name(0));
        Drawing i = oneSheet(sentence, pin(0, 3, -2, 1), label(0, x, y, 5), wire);
        i.asks(on ? 5 : -1, name(0));
    }

    private static void placesOnTheLongestWire() {
        Drawing d = oneSheet("a wire from the least place to the greatest",
                pin(0, -FAR, -FAR, 1), wire(0, -FAR, -FAR, FAR, FAR),
                pin(0, FAR, FAR, 1), pin(0, 0, 0, 1), pin(0, FAR - 1, FAR - 1, 1), pin(0, 1 - FAR, 1 - FAR, 1));
        d.asks(1, nets());
        d.takes(5, pin(0, FAR, FAR - 1, 1));
        d.takes(6, pin(0, FAR - 1, FAR, 1));
        d.takes(7, pin(0, 0, 1, 1));
        d.takes(8, pin(0, -FAR, 1 - FAR, 1));
        d.takes(9, pin(0, -FAR, FAR, 1));
        d.asks(6, nets());
        Drawing e = oneSheet("a wire with as great a slope as can be",
                pin(0, 0, -FAR, 1), wire(0, 0, -FAR, 1, FAR), pin(0, 1, FAR, 1));
        e.asks(1, nets());
        e.takes(2, pin(0, 0, 0, 1));
        e.takes(3, pin(0, 1, 0, 1));
        e.takes(4, pin(0, 1, FAR - 1, 1));
        e.takes(5, pin(0, 0, 1 - FAR, 1));
        e.asks(5, nets());
    }

    /** Two wires that share no end; each goes through the junction in its middle, at an end, or beside it. */
    private static void junctionsOnWires() {
        Call[] through = {wire(0, 0, 0, 20, 0), wire(0, 0, 0, 10, 0), wire(0, 10, 0, 0, 0), wire(0, 0, 0, 11, 0)};
        Call[] other = {wire(0, 10, 10, 10, -10), wire(0, 10, 10, 10, 0), wire(0, 10, 0, 10, 10), wire(0, 10, 10, 10, -1)};
        Call[] beside = {wire(0, 10, 10, 10, 1), wire(0, 10, 10, 11, -10), wire(0, 10, 10, 9, -10)};
        for (int i = 0; i < through.length; i++) {
            for (int j = 0; j < other.length; j++) {
                boolean end = i % 3 != 0 && j % 3 != 0;
                Drawing d = oneSheet("two wires that both go through a JUNCTION, " + i + ", " + j,
                        pin(0, 0, 0, 1), pin(0, 10, 10, 1), through[i], other[j]);
                d.asks(end ? 1 : 2, nets());
                d.takes(YES, junction(0, 10, 0));
                d.asks(1, nets());
                d.takes(2, drop(1));
                d.takes(2, other[j]);
                d.asks(1, nets());
            }
            for (Call call : beside) {
                Drawing d = oneSheet("only one wire goes through the JUNCTION, " + i,
                        pin(0, 0, 0, 1), pin(0, 10, 10, 1), junction(0, 10, 0), through[i], call);
                d.asks(2, nets());
            }
        }
        Drawing d = oneSheet("one beside the crossing", pin(0, 0, 0, 1), pin(0, 10, 10, 1), through[0], other[0],
                junction(0, 11, 0), junction(0, 9, 0), junction(0, 10, 1), junction(0, 10, -1), junction(0, 0, 10));
        d.asks(2, nets());
    }

    private static void junctionsOfOneSheet() {
        Drawing d = drawing("a JUNCTION is on one sheet and its repeats", sheet(NONE, NONE), sheet(NONE, NONE),
                sheet(NONE, 0), pin(0, 0, 0, 1), pin(0, 10, 10, 1), wire(0, 0, 0, 20, 0), wire(0, 10, 10, 10, -10),
                pin(1, 0, 0, 1), pin(1, 10, 10, 1), wire(1, 0, 0, 20, 0), wire(1, 10, 10, 10, -10));
        d.asks(6, nets());
        d.takes(YES, junction(0, 10, 0));
        d.asks(4, nets());
        d.joins(0, 0, 1, 0);
        d.joins(0, 1, 1, 1);
        d.parts(2, 0, 3, 0);
        Drawing e = oneSheet("a JUNCTION joins wires alone", pin(0, 5, 0, 1), label(0, 5, 0, 7), junction(0, 5, 0),
                junction(0, 6, 0), pin(0, 6, 0, 1), wire(0, 0, 0, 5, 0), wire(0, 6, 0, 9, 0));
        e.asks(2, nets());
        e.asks(NONE, told(0));
    }

    private static void samePlace() {
        Drawing d = oneSheet("labels and pins of the same place",
                pin(0, 5, 5, 1), pin(0, 5, 5, 2), pin(0, 6, 5, 1), pin(0, 5, 6, 1), pin(0, 4, 5, 1), pin(0, 5, 4, 1));
        d.joins(0, 0, 1, 0);
        d.asks(5, nets());
        d.takes(0, label(0, 5, 5, 30));
        d.asks(30, name(0));
        d.asks(-3, name(1));
        d.takes(1, label(0, 5, 6, 31));
        d.takes(2, label(0, 50, 50, 30));
        d.takes(3, label(0, 51, 50, 31));
        d.parts(0, 0, 3, 0);
        d.takes(4, label(0, 50, 50, 31));
        d.joins(0, 0, 3, 0);
        Drawing e = drawing("the same place of two sheets", sheet(NONE, NONE), sheet(NONE, NONE),
                pin(0, 5, 5, 1), pin(1, 5, 5, 1), label(0, 5, 5, 30));
        e.asks(2, nets());
        e.asks(-2, name(1));
        e.takes(2, sheet(NONE, 0));
        e.asks(3, nets());
    }

    /** All pins, labels and wires that there can be, each at a place of its own. */
    private static void thingsAreApart() {
        Drawing d = oneSheet("what is not joined is not joined, whatever its number");
        for (int i = 0; i < 60; i++) {
            d.tell(pin(0, i, 0, 1), label(0, i, 1, i));
        }
        for (int i = 0; i < 100; i++) {
            d.tell(wire(0, i, 2, i, 3));
        }
        d.asks(60, nets());
        for (int i = 0; i < 60; i++) {
            d.asks(-1 - i, name(i));
            d.asks(100_000_000 + i, told(i));
        }
        d.asks(0, drop(0));
        d.asks(60, nets());
        d.asks(-60, name(59));
    }

    private static void droppedWires() {
        Drawing d = oneSheet("WIRES can be dropped: what the others join stays joined",
                pin(0, 0, 0, 1), pin(0, 30, 0, 1), pin(0, 60, 0, 1), wire(0, 0, 0, 10, 0), wire(0, 20, 0, 10, 0),
                wire(0, 20, 0, 30, 0), wire(0, 30, 0, 45, 9), wire(0, 60, 0, 45, 9), wire(0, 0, 9, 9, 9));
        d.asks(1, nets());
        d.takes(0, drop(5));
        d.asks(1, nets());
        d.takes(2, drop(3));
        d.joins(0, 0, 1, 0);
        d.asks(2, nets());
        d.takes(6, wire(0, 45, 9, 10, 0));
        d.asks(1, nets());
        d.takes(2, drop(0));
        d.joins(1, 0, 2, 0);
        d.takes(2, drop(2));
        d.asks(3, nets());
    }

    // ---- names

    private static void namesOfOneSheet() {
        for (int name : new int[] {0, 1, 898, 899}) {
            Drawing d = threeSheets("a label and its NAME on that sheet, " + name,
                    pin(0, 0, 0, 1), label(0, 0, 0, name), pin(0, 9, 0, 1), label(0, 9, 0, name),
                    pin(1, 0, 0, 1), label(1, 0, 0, name), pin(0, 5, 0, 1), label(0, 5, 0, name == 0 ? 1 : name - 1));
            d.joins(0, 0, 1, 0);
            d.parts(0, 0, 2, 0);
            d.parts(2, 0, 2, 1);
            d.parts(0, 0, 3, 0);
            d.asks(4, nets());
        }
    }

    private static void powerNames() {
        for (int name : new int[] {900, 901, 998, 999}) {
            Drawing d = threeSheets("a power name is one for all sheets, " + name,
                    pin(0, 0, 0, 1), label(0, 0, 0, name), pin(1, 0, 0, 1), label(1, 0, 0, name),
                    pin(0, 5, 0, 1), label(0, 5, 0, name == 999 ? 900 : name + 1));
            d.joins(0, 0, 1, 0);
            d.joins(1, 0, 1, 1);
            d.parts(0, 0, 2, 0);
            d.takes(3, sheet(NONE, 1));
            d.joins(0, 0, 1, 2);
            d.asks(2, nets());
        }
    }

    /** All ordinary names of two sheets are made one; each power name stays by itself. */
    private static void powerNamesAreApart() {
        for (int first : new int[] {900, 942}) {
            Drawing d = drawing("a power name is no other name, from " + first, sheet(NONE, NONE), sheet(NONE, NONE),
                    bus(0, 1, 0, 898), bus(0, 1, 1, 899), bus(1, 2, 0, 898), bus(1, 2, 1, 899),
                    pin(0, 0, 0, 1), label(0, 0, 0, 5), pin(1, 0, 0, 1), label(1, 0, 0, 5));
            for (int i = 0; i < 58; i++) {
                d.tell(pin(i % 2, 9, i, 1), label(i % 2, 9, i, first + i));
            }
            d.asks(60, nets());
        }
    }

    /** All ordinary names of each sheet are made one; no two sheets come together by that. */
    private static void namesOfSheetsAreApart() {
        Drawing d = oneSheet("a NAME on a sheet is none on another", pin(0, 0, 0, 1), label(0, 0, 0, 5),
                pin(0, 9, 0, 1), label(0, 9, 0, 899), bus(0, 1, 0, 898), bus(0, 1, 1, 899));
        for (int i = 1; i < 16; i++) {
            d.tell(sheet(NONE, 0));
        }
        d.asks(16, nets());
        for (int i = 0; i < 16; i++) {
            d.asks(i, netOf(0, i));
            d.asks(i, netOf(1, i));
        }
    }

    // ---- ports

    private static void portsOfOneSheet() {
        Drawing d = threeSheets("a PORT of a sheet: one label on it",
                pin(0, 0, 0, 1), label(0, 0, 0, 20), pin(1, 0, 0, 1), label(1, 0, 0, 5), pin(1, 9, 0, 1), label(1, 9, 0, 6));
        d.takes(YES, port(1, 1, 20));
        d.joins(0, 0, 1, 0);
        d.parts(0, 0, 1, 1);
        d.parts(0, 0, 2, 0);
        d.takes(YES, port(2, 2, 20));
        d.joins(0, 0, 2, 1);
        d.parts(0, 0, 1, 1);
        d.takes(3, sheet(0, 1));
        d.parts(0, 0, 1, 2);
        d.parts(0, 0, 2, 2);
        d.asks(5, nets());
    }

    private static void portsToTheParent() {
        Drawing d = drawing("a PORT: and a NAME on the parent", sheet(NONE, NONE), sheet(0, NONE), sheet(1, NONE),
                pin(0, 0, 0, 1), label(0, 0, 0, 20), pin(1, 0, 0, 1), label(1, 0, 0, 20),
                pin(2, 0, 0, 1), label(2, 0, 0, 20), pin(2, 9, 0, 1), label(2, 9, 0, 7));
        d.takes(YES, port(2, 3, 20));
        d.joins(1, 0, 3, 0);
        d.parts(0, 0, 3, 0);
        d.parts(2, 0, 3, 0);
        d.asks(3, nets());
        Drawing e = threeSheets("a NAME on the parent that no label has", pin(1, 0, 0, 1), label(1, 0, 0, 5),
                port(1, 0, 20), port(2, 0, 20));
        e.joins(0, 0, 0, 1);
        e.asks(5, name(0));
        e.asks(NONE, told(0));
    }

    private static void portsOfPowerNames() {
        for (int name : new int[] {899, 900}) {
            Drawing d = drawing("a PORT: a power name on the parent, " + name, sheet(NONE, NONE), sheet(0, NONE),
                    sheet(NONE, NONE), pin(1, 0, 0, 1), label(1, 0, 0, 5), pin(2, 0, 0, 1), label(2, 0, 0, name),
                    port(1, 0, name));
            d.asks(name == 900 ? 1 : 2, nets());
            Drawing e = threeSheets("a PORT: a label with a power name, " + name,
                    pin(0, 0, 0, 1), label(0, 0, 0, 20), pin(1, 0, 0, 1), label(1, 0, 0, name), port(1, 1, 20));
            e.joins(0, 0, 1, 0);
            e.asks(name == 900 ? 1 : 2, nets());
        }
    }

    private static void portsBetweenRepeats() {
        Drawing d = threeSheets("a PORT of a repeat in a repeat",
                sheet(2, NONE), sheet(2, 3), sheet(1, 3),
                pin(1, 0, 0, 1), label(1, 0, 0, 20), pin(3, 0, 0, 1), label(3, 0, 0, 5));
        d.takes(YES, port(4, 1, 20));
        d.joins(0, 1, 1, 1);
        d.parts(0, 0, 1, 1);
        d.parts(0, 1, 1, 0);
        d.takes(YES, port(5, 1, 20));
        d.joins(0, 0, 1, 2);
        d.asks(3, nets());
    }

    // ---- buses

    private static void busesUpAndDown() {
        for (int turned = 0; turned < 4; turned++) {
            boolean up = turned % 2 == 0;
            boolean up2 = turned / 2 == 0;
            Drawing d = oneSheet("its members going from one to the other (up or down), " + turned);
            tellNamed(d, 0, 10, 13);
            tellNamed(d, 0, 20, 23);
            d.takes(YES, up ? bus(0, 7, 10, 13) : bus(0, 7, 13, 10));
            d.asks(8, nets());
            d.takes(YES, up2 ? bus(0, 7, 20, 23) : bus(0, 7, 23, 20));
            for (int i = 0; i < 4; i++) {
                d.joins(i, 0, 4 + (up == up2 ? i : 3 - i), 0);
            }
            d.asks(4, nets());
        }
    }

    private static void busesOfUnlikeLengths() {
        Drawing d = oneSheet("the first members, then the second ones, as far as both have them");
        tellNamed(d, 0, 10, 14);
        tellNamed(d, 0, 20, 24);
        d.takes(YES, bus(0, 7, 10, 12));
        d.takes(YES, bus(0, 7, 20, 23));
        d.joins(0, 0, 5, 0);
        d.joins(1, 0, 6, 0);
        d.joins(2, 0, 7, 0);
        d.asks(7, nets());
        tellNamed(d, 0, 30, 34);
        d.takes(YES, bus(0, 7, 30, 34));
        d.joins(10, 0, 0, 0);
        d.joins(12, 0, 2, 0);
        d.joins(13, 0, 8, 0);
        d.parts(14, 0, 9, 0);
        d.parts(13, 0, 3, 0);
        d.asks(8, nets());
        d.takes(YES, bus(0, 7, 14, 10));
        d.joins(14, 0, 0, 0);
        d.joins(13, 0, 3, 0);
        d.asks(4, nets());
    }

    private static void busesOfOneMember() {
        Drawing d = oneSheet("a bus of one member");
        tellNamed(d, 0, 10, 12);
        d.takes(YES, bus(0, 7, 10, 10));
        d.takes(YES, bus(0, 7, 11, 12));
        d.joins(0, 0, 1, 0);
        d.parts(0, 0, 2, 0);
        d.takes(YES, bus(0, 7, 12, 12));
        d.asks(1, nets());
        Drawing e = oneSheet("buses of the first and of the last name",
                pin(0, 0, 0, 1), label(0, 0, 0, 0), pin(0, 9, 0, 1), label(0, 9, 0, 999),
                bus(0, 0, 0, 0), bus(0, 0, 999, 999));
        e.asks(1, nets());
    }

    private static void busesOfAllNames() {
        Drawing d = oneSheet("a bus of all names, up and down");
        int[] names = {0, 1, 499, 500, 899, 900, 998, 999};
        for (int name : names) {
            d.tell(pin(0, name, 0, 1), label(0, name, 0, name));
        }
        d.takes(YES, bus(0, 0, 0, 999));
        d.asks(8, nets());
        d.takes(YES, bus(0, 0, 999, 0));
        d.joins(0, 0, 7, 0);
        d.joins(1, 0, 6, 0);
        d.joins(2, 0, 3, 0);
        d.asks(5, nets());
        d.takes(YES, bus(0, 0, 1, 999));
        d.asks(1, nets());
    }

    private static void busesOfOneSheet() {
        for (int name : new int[] {0, 899}) {
            Drawing d = threeSheets("of the same name on the same sheet, " + name);
            tellNamed(d, 0, 10, 11);
            tellNamed(d, 1, 20, 21);
            d.takes(YES, bus(0, name, 10, 10));
            d.takes(YES, bus(1, name, 20, 20));
            d.takes(YES, bus(0, name + 1 == 900 ? 898 : 1, 11, 11));
            d.asks(6, nets());
            d.takes(YES, bus(0, name, 11, 11));
            d.asks(5, nets());
            d.takes(YES, bus(1, name, 21, 21));
            d.asks(3, nets());
            d.parts(2, 0, 2, 1);
        }
    }

    private static void busesOfPowerNames() {
        for (int name : new int[] {900, 999}) {
            Drawing d = drawing("of the same power name: on any sheets, " + name,
                    sheet(NONE, NONE), sheet(NONE, NONE), sheet(0, NONE));
            tellNamed(d, 0, 10, 11);
            tellNamed(d, 1, 20, 21);
            tellNamed(d, 2, 20, 21);
            d.takes(YES, bus(0, name, 10, 11));
            d.takes(YES, bus(2, name == 900 ? 901 : 998, 20, 21));
            d.asks(6, nets());
            d.takes(YES, bus(1, name, 21, 20));
            d.joins(0, 0, 3, 0);
            d.joins(1, 0, 2, 0);
            d.asks(4, nets());
            d.takes(YES, bus(2, name, 20, 20));
            d.joins(0, 0, 4, 0);
            d.asks(3, nets());
        }
        Drawing d = threeSheets("members are NAMES on the sheet of each");
        tellNamed(d, 0, 10, 11);
        tellNamed(d, 1, 10, 11);
        d.takes(YES, bus(0, 950, 10, 10));
        d.takes(YES, bus(1, 950, 11, 11));
        d.joins(0, 0, 3, 0);
        d.joins(0, 0, 3, 1);
        d.asks(4, nets());
    }

    private static void busesOnRepeats() {
        Drawing d = threeSheets("what is told on a drawn sheet is told on its repeats, buses");
        tellNamed(d, 1, 10, 13);
        d.takes(YES, bus(1, 7, 10, 11));
        d.takes(YES, bus(1, 7, 12, 13));
        d.joins(0, 0, 2, 0);
        d.joins(0, 1, 2, 1);
        d.joins(1, 1, 3, 1);
        d.parts(0, 0, 0, 1);
        d.takes(3, sheet(NONE, 1));
        d.joins(0, 2, 2, 2);
        d.asks(6, nets());
        // The bus on a repeat is one of the same power name on another sheet.
        d.takes(YES, bus(1, 950, 10, 10));
        d.joins(0, 0, 0, 1);
        d.joins(0, 0, 0, 2);
        d.parts(1, 0, 1, 1);
        d.asks(4, nets());
        d.takes(4, sheet(0, 1));
        d.joins(0, 0, 0, 3);
        d.asks(5, nets());
    }

    private static void busesAndLaterSheets() {
        Drawing d = oneSheet("a bus is told on one sheet and its repeats, on no later sheet",
                bus(0, 7, 10, 10), bus(0, 7, 11, 11), bus(0, 950, 10, 11));
        d.tell(sheet(0, NONE), wire(1, 0, 5, 1, 5));
        tellNamed(d, 1, 10, 11);
        d.asks(2, nets());
        d.takes(0, drop(0));
        d.asks(2, nets());
        d.asks(YES, same());
        d.tell(sheet(NONE, 1), sheet(NONE, 0));
        tellNamed(d, 0, 10, 11);
        d.asks(5, nets());
        d.joins(2, 0, 3, 1);
    }

    private static void busesThatNeverMeet() {
        Drawing d = oneSheet("one bus joins none of its own members");
        tellNamed(d, 0, 10, 13);
        d.takes(YES, bus(0, 7, 10, 13));
        d.takes(YES, bus(0, 8, 13, 10));
        d.takes(YES, bus(0, 10, 11, 13));
        d.asks(4, nets());
        // A bus is no member: the name that it is told by stays apart.
        d.takes(YES, bus(0, 10, 11, 11));
        d.parts(0, 0, 1, 0);
        d.asks(4, nets());
    }

    private static void joinedToTheSame() {
        Drawing d = threeSheets("what is joined to the same is joined: a chain through all kinds",
                pin(0, 0, 0, 1), wire(0, 0, 0, 5, 0), wire(0, 5, 0, 5, 10), wire(0, 0, 5, 9, 5), junction(0, 5, 5),
                label(0, 9, 5, 20), bus(0, 7, 20, 20), bus(0, 7, 30, 30), label(1, 0, 0, 5),
                wire(1, 0, 0, 3, 3), pin(1, 3, 3, 1));
        d.asks(3, nets());
        d.takes(YES, port(2, 1, 30));
        d.asks(2, nets());
        d.joins(0, 0, 1, 1);
        d.takes(2, label(1, 50, 50, 950));
        d.takes(3, label(1, 50, 50, 5));
        d.asks(1, nets());
        d.takes(2, drop(1));
        d.parts(0, 0, 1, 0);
        d.joins(1, 0, 1, 1);
    }

    // ---- nets and their names

    private static void netsByLeastPin() {
        Drawing d = oneSheet("numbered from 0 by the least pin in them",
                pin(0, 40, 0, 1), pin(0, 30, 0, 1), pin(0, 20, 0, 1), pin(0, 10, 0, 1), pin(0, 0, 0, 1));
        d.tell(label(0, 0, 0, 5), label(0, 30, 0, 5), label(0, 10, 0, 6), label(0, 20, 0, 6));
        d.asks(0, netOf(0, 0));
        d.asks(1, netOf(1, 0));
        d.asks(2, netOf(2, 0));
        d.asks(2, netOf(3, 0));
        d.asks(1, netOf(4, 0));
        d.asks(3, nets());
    }

    private static void netsByLowestCopy() {
        Drawing d = threeSheets("of the same by its lowest copy", sheet(0, 1), pin(1, 0, 0, 1), pin(1, 9, 0, 1),
                label(1, 0, 0, 5), pin(0, 0, 0, 1), label(0, 0, 0, 20));
        d.asks(0, netOf(0, 0));
        d.asks(1, netOf(0, 1));
        d.asks(2, netOf(0, 2));
        d.asks(3, netOf(1, 0));
        d.asks(6, netOf(2, 0));
        d.takes(YES, port(3, 0, 20));
        d.asks(2, netOf(2, 0));
        d.takes(YES, port(1, 0, 20));
        d.asks(0, netOf(2, 0));
        d.asks(0, netOf(0, 2));
        d.asks(1, netOf(0, 1));
        d.asks(2, netOf(1, 0));
        d.asks(4, netOf(1, 2));
        d.asks(5, nets());
    }

    private static void namesByRank() {
        Drawing d = oneSheet("of the highest RANK (at first 0), of the same rank the least one",
                pin(0, 0, 0, 1), label(0, 0, 0, 999));
        d.asks(999, name(0));
        d.takes(1, label(0, 0, 0, 500));
        d.asks(500, name(0));
        d.takes(2, label(0, 0, 0, 0));
        d.asks(0, name(0));
        d.takes(YES, rank(0, -1));
        d.asks(500, name(0));
        d.takes(YES, rank(999, 1));
        d.asks(999, name(0));
        d.takes(YES, rank(500, 1));
        d.asks(500, name(0));
        d.takes(YES, rank(0, 9));
        d.takes(YES, rank(999, 8));
        d.asks(0, name(0));
        d.takes(YES, rank(0, -9));
        d.takes(YES, rank(500, -9));
        d.takes(YES, rank(999, -9));
        d.asks(0, name(0));
        d.takes(YES, rank(1, 9));
        d.asks(0, name(0));
        d.takes(3, label(0, 5, 5, 1));
        d.asks(0, name(0));
        d.takes(4, label(0, 5, 5, 500));
        d.asks(1, name(0));
    }

    private static void namesWithoutLabels() {
        Drawing d = oneSheet("without labels -1 minus its least pin");
        for (int i = 0; i < 60; i++) {
            d.tell(pin(0, i, 0, 1));
        }
        d.asks(-1, name(0));
        d.asks(-2, name(1));
        d.asks(-60, name(59));
        d.tell(wire(0, 58, 0, 59, 0));
        d.asks(-59, name(58));
        // A name that ports and buses lead to is no label's.
        d.tell(bus(0, 5, 6, 7), label(0, 0, 0, 0));
        d.asks(0, name(0));
        d.tell(bus(0, 5, 0, 1));
        d.asks(0, name(0));
        d.asks(NONE, told(0));
        Drawing e = threeSheets("the least pin, not its copy", pin(1, 0, 0, 1), pin(1, 9, 0, 1));
        e.asks(-1, name(0));
        e.asks(-1, name(1));
        e.asks(-2, name(2));
        e.asks(-2, name(3));
    }

    private static void namesOfLabelsElsewhere() {
        Drawing d = drawing("the names of all labels that are joined to it, of no others", sheet(NONE, NONE),
                sheet(0, NONE), sheet(NONE, NONE), pin(1, 0, 0, 1), label(1, 0, 0, 9), port(1, 0, 5),
                label(2, 0, 0, 5), label(2, 0, 0, 3), label(1, 7, 7, 5));
        d.asks(9, name(0));
        d.asks(100_000_001, told(0));
        d.tell(label(0, 0, 0, 5));
        d.asks(5, name(0));
        d.asks(9, told(0));
        d.asks(100_000_001, told(1));
    }

    /** Names that are joined to no pin belong to no net, the first power name among them. */
    private static void namesOfNoNet() {
        for (int name : new int[] {0, 899, 900, 999}) {
            Drawing d = oneSheet("labels that are joined to no pin, " + name, label(0, 0, 0, name));
            d.asks(100_000_000, told(0));
            d.asks(NONE, told(1));
            d.tell(pin(0, 9, 9, 1));
            d.asks(-1, name(0));
            d.asks(100_000_000, told(0));
            d.tell(label(0, 9, 9, 7));
            d.asks(7, name(0));
            d.asks(NONE, told(1));
        }
    }

    // ---- remarks

    private static void remarksOfOtherNames() {
        Drawing d = oneSheet("each other name of it, rising: 1,000 * net + name",
                pin(0, 0, 0, 1), label(0, 0, 0, 5), label(0, 0, 0, 5));
        d.asks(NONE, told(0));
        d.tell(label(0, 0, 0, 0), label(0, 0, 0, 999), label(0, 0, 0, 999), label(0, 0, 0, 0));
        d.asks(5, told(0));
        d.asks(999, told(1));
        d.asks(NONE, told(2));
        d.tell(rank(5, 1));
        d.asks(0, told(0));
        d.asks(999, told(1));
        d.tell(pin(0, 9, 9, 1), label(0, 9, 9, 1), label(0, 9, 9, 0), label(0, 9, 9, 999));
        // The labels of 0 and 999 join both nets.
        d.asks(1, nets());
        d.asks(1, told(1));
        d.tell(pin(0, 7, 7, 1), label(0, 7, 7, 899), label(0, 7, 7, 8));
        d.asks(999, told(2));
        d.asks(1899, told(3));
        d.asks(NONE, told(4));
    }

    private static void remarksOfLabels() {
        Drawing d = oneSheet("labels whose place has no pin and no wire through it: 100,000,000 + label",
                label(0, 0, 0, 5), label(0, 5, 0, 5), label(0, 9, 0, 5));
        d.asks(100_000_000, told(0));
        d.asks(100_000_001, told(1));
        d.asks(100_000_002, told(2));
        d.asks(NONE, told(3));
        d.tell(junction(0, 0, 0), pin(0, 1, 0, 1), wire(0, 6, 0, 8, 0));
        d.asks(100_000_000, told(0));
        d.asks(100_000_002, told(2));
        d.tell(pin(0, 5, 0, 1));
        d.asks(100_000_002, told(1));
        d.asks(NONE, told(2));
        d.tell(wire(0, 9, 0, 9, 9), wire(0, 9, 9, 9, -9));
        d.asks(100_000_000, told(0));
        d.asks(NONE, told(1));
        d.tell(drop(1));
        d.asks(NONE, told(1));
        d.tell(drop(2));
        d.asks(100_000_002, told(1));
        Drawing e = drawing("another sheet's pin and wire, and one remark for all copies", sheet(NONE, NONE),
                sheet(NONE, NONE), sheet(NONE, 0), label(0, 0, 0, 5), pin(1, 0, 0, 1), wire(1, 0, 0, 1, 0));
        e.asks(100_000_000, told(0));
        e.asks(NONE, told(1));
        Drawing f = oneSheet("the last label");
        for (int i = 0; i < 60; i++) {
            f.tell(label(0, i, 0, i));
        }
        f.asks(100_000_059, told(59));
        f.asks(NONE, told(60));
    }

    private static void remarksOfOpenPins() {
        Drawing d = threeSheets("pins that are OPEN, though a copy of them is in a net with another copy of a pin",
                pin(1, 0, 0, 1), label(1, 0, 0, 5), open(0));
        d.asks(NONE, told(0));
        d.tell(pin(0, 0, 0, 1), label(0, 0, 0, 20), port(2, 0, 20));
        // The other name comes first; then pin 0 for its copy 1, and pin 1 is not OPEN.
        d.asks(1020, told(0));
        d.asks(200_000_000, told(1));
        d.asks(NONE, told(2));
        d.tell(open(1));
        d.asks(200_000_001, told(2));
        d.tell(open(0));
        d.asks(200_000_001, told(1));
        d.asks(NONE, told(2));
        Drawing e = threeSheets("another copy of the same pin", pin(1, 0, 0, 1), open(0));
        e.asks(NONE, told(0));
        e.tell(label(1, 0, 0, 900));
        e.asks(200_000_000, told(0));
        e.asks(NONE, told(1));
    }

    private static void remarksInOrder() {
        Drawing d = oneSheet("REMARKS, in this order", label(0, 50, 0, 3), pin(0, 0, 0, 1), pin(0, 0, 0, 2),
                pin(0, 9, 0, 1), label(0, 9, 0, 8), label(0, 9, 0, 2), label(0, 0, 0, 7), label(0, 0, 0, 6),
                label(0, 60, 0, 4), open(1), open(0), open(2));
        int[] due = {7, 1008, 100_000_000, 100_000_005, 200_000_000, 200_000_001, NONE};
        for (int i = 0; i < due.length; i++) {
            d.asks(due[i], told(i));
        }
    }

    /** Each net has all 60 names, all labels but one have no pin, and all pins are OPEN. */
    private static void remarksOfAll() {
        Drawing d = oneSheet("REMARKS of all kinds, as many as 60 labels and 60 pins can have");
        for (int i = 0; i < 60; i++) {
            d.tell(label(0, i, 0, i), pin(0, 0, 0, i), open(i));
        }
        d.tell(bus(0, 1, 0, 59), bus(0, 1, 1, 59));
        for (int i = 1; i < 16; i++) {
            d.tell(sheet(NONE, 0));
        }
        d.asks(16, nets());
        d.asks(1, told(0));
        d.asks(15_059, told(16 * 59 - 1));
        d.asks(100_000_001, told(16 * 59));
        d.asks(100_000_059, told(16 * 59 + 58));
        d.asks(200_000_000, told(16 * 59 + 59));
        d.asks(200_000_059, told(16 * 59 + 118));
        d.asks(NONE, told(16 * 59 + 119));
    }

    // ---- changed

    private static void changedNets() {
        Drawing d = oneSheet("CHANGED when no net had just these copies of pins before");
        for (int i = 0; i < 4; i++) {
            d.takes(i, pin(0, 10 * i, 0, 1));
            d.asks(i, changed(0));
            d.asks(NONE, changed(1));
        }
        d.takes(0, wire(0, 0, 0, 10, 0));
        d.asks(0, changed(0));
        d.asks(NONE, changed(1));
        d.takes(1, wire(0, 20, 0, 30, 0));
        d.asks(1, changed(0));
        d.asks(NONE, changed(1));
        d.takes(2, wire(0, 0, 0, 10, 0));
        d.asks(NONE, changed(0));
        d.takes(3, wire(0, 10, 0, 20, 0));
        d.asks(0, changed(0));
        d.asks(NONE, changed(1));
        d.takes(0, drop(0));
        d.asks(NONE, changed(0));
        d.takes(2, drop(3));
        d.asks(0, changed(0));
        d.asks(1, changed(1));
        d.asks(NONE, changed(2));
        d.takes(0, label(0, 20, 0, 5));
        d.asks(NONE, changed(0));
    }

    private static void changedNumbers() {
        Drawing d = oneSheet("a net that has another number alone is not CHANGED",
                pin(0, 0, 0, 1), pin(0, 10, 0, 1), pin(0, 20, 0, 1), pin(0, 30, 0, 1));
        d.takes(0, wire(0, 0, 0, 10, 0));
        d.asks(2, netOf(3, 0));
        d.asks(0, changed(0));
        d.asks(NONE, changed(1));
        d.takes(2, drop(0));
        d.asks(3, netOf(3, 0));
        d.asks(0, changed(0));
        d.asks(1, changed(1));
        d.asks(NONE, changed(2));
        Drawing e = drawing("copies of pins that come with a repeat", sheet(NONE, NONE), pin(0, 0, 0, 1),
                pin(0, 9, 0, 1), label(0, 9, 0, 900));
        e.asks(2, nets());
        e.takes(1, sheet(NONE, 0));
        e.asks(1, changed(0));
        e.asks(2, changed(1));
        e.asks(NONE, changed(2));
        e.takes(2, sheet(NONE, NONE));
        e.asks(NONE, changed(0));
    }
}
