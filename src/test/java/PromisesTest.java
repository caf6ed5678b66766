/** For each promise: ordinary calls, the edges that the document names, and wrong ones. */
public final class PromisesTest {
    private static final long FAR = 1_000_000_000L;
    private static final Check check = new Check();

    public static void main(String[] args) {
        check.due(-1, NetJoins.NONE, "NONE");
        newObject();
        sheetNumbers();
        sheetErrors();
        sheetRepeatsAllNowAndLater();
        wireEnds();
        wireGeometry();
        wireErrors();
        wireLimit();
        junctions();
        junctionErrors();
        labels();
        labelErrors();
        pins();
        pinErrors();
        ports();
        portsOfRepeats();
        portErrors();
        portLimit();
        buses();
        busesOfSeveralLengths();
        powerBuses();
        busErrors();
        nets();
        netOf();
        ranks();
        names();
        drop();
        dropKeepsTheRest();
        open();
        told();
        toldOfLooseLabels();
        toldOfOpenPins();
        same();
        changed();
        changedByEachKind();
        callsThatChangeNothing();
        fullObject();
        check.end();
    }

    /** An object with one drawn sheet. */
    private static NetJoins oneSheet() {
        NetJoins x = new NetJoins();
        x.sheet(-1, -1);
        return x;
    }

    /** Sheet 0, and in it the drawn sheet 1 and its repeat, sheet 2. */
    private static NetJoins threeSheets() {
        NetJoins x = oneSheet();
        x.sheet(0, -1);
        x.sheet(0, 1);
        return x;
    }

    private static boolean together(NetJoins x, int pin, int copy, int pin2, int copy2) {
        return x.netOf(pin, copy) == x.netOf(pin2, copy2);
    }

    // ---- promise 1

    private static void newObject() {
        check.about("promise 1");
        NetJoins x = new NetJoins();
        check.due(0, x.nets(), "nets()");
        check.due(-1, x.told(0), "told(0)");
        check.due(-1, x.changed(0), "changed(0)");
        check.yes(x.same(), "same()");
        check.throwsOut(() -> x.pin(0, 0, 0, 0), "pin without sheets");
        check.throwsOut(() -> x.wire(0, 0, 0, 1, 0), "wire without sheets");
        check.throwsOut(() -> x.label(0, 0, 0, 0), "label without sheets");
        check.throwsOut(() -> x.junction(0, 0, 0) ? 1 : 0, "junction without sheets");
        check.throwsOut(() -> x.bus(0, 0, 0, 0) ? 1 : 0, "bus without sheets");
        check.throwsOut(() -> x.port(0, 0, 0) ? 1 : 0, "port without sheets");
        check.throwsOut(() -> x.sheet(0, -1), "sheet in a parent that is not there");
        check.throwsOut(() -> x.name(0), "name without nets");
        check.yes(x.rank(0, 1), "rank without sheets");
    }

    // ---- promise 2

    private static void sheetNumbers() {
        check.about("promise 2");
        NetJoins x = new NetJoins();
        for (int i = 0; i < 16; i++) {
            check.due(i, x.sheet(i - 1, i % 2 == 0 ? -1 : i - 1), "sheet " + i);
        }
        check.due(-1, x.sheet(-1, -1), "a 17th sheet");
        check.due(-1, x.sheet(15, 14), "a 17th sheet, a repeat");
        check.throwsOut(() -> x.sheet(16, -1), "a 17th sheet in one that is not there");
        check.throwsOut(() -> x.sheet(-1, 16), "a 17th sheet of one that is not there");
        check.throwsState(() -> x.sheet(-1, 15), "a 17th sheet of a repeat");
    }

    private static void sheetErrors() {
        check.about("promise 2, errors");
        NetJoins x = threeSheets();
        check.throwsOut(() -> x.sheet(-2, -1), "sheet(-2, -1)");
        check.throwsOut(() -> x.sheet(3, -1), "sheet(3, -1)");
        check.throwsOut(() -> x.sheet(-1, -2), "sheet(-1, -2)");
        check.throwsOut(() -> x.sheet(-1, 3), "sheet(-1, 3)");
        check.throwsOut(() -> x.sheet(3, 2), "sheet(3, 2): the parent is looked at first");
        check.throwsOut(() -> x.sheet(Integer.MIN_VALUE, Integer.MAX_VALUE), "sheet(least, greatest)");
        check.throwsState(() -> x.sheet(0, 2), "sheet(0, 2)");
        check.due(3, x.sheet(2, 1), "sheet(2, 1): a repeat may be a parent");
    }

    private static void sheetRepeatsAllNowAndLater() {
        check.about("promise 2, repeats");
        NetJoins x = oneSheet();
        x.pin(0, 0, 0, 1);
        x.pin(0, 9, 0, 1);
        x.wire(0, 0, 0, 9, 0);
        check.due(1, x.sheet(-1, 0), "sheet(-1, 0)");
        check.due(2, x.nets(), "nets(): the wire is there twice");
        check.yes(together(x, 0, 1, 1, 1), "pins 0 and 1, copy 1");
        x.pin(0, 5, 0, 1);
        check.yes(together(x, 0, 1, 2, 1), "a later pin, copy 1");
        x.sheet(0, -1);
        check.due(3, x.sheet(-1, 0), "a second repeat");
        check.due(2, x.netOf(2, 2), "netOf(2, 2)");
        check.throwsOut(() -> x.netOf(2, 3), "netOf(2, 3)");
    }

    // ---- promise 3

    private static void wireEnds() {
        check.about("promise 3");
        NetJoins x = oneSheet();
        x.pin(0, 0, 0, 1);
        x.pin(0, 8, 8, 1);
        x.pin(0, 4, 9, 1);
        check.due(0, x.wire(0, 0, 0, 4, 0), "first wire");
        check.due(1, x.wire(0, 8, 8, 4, 0), "second wire");
        check.yes(together(x, 0, 0, 1, 0), "wires with a common end");
        check.due(2, x.wire(0, 2, 0, 4, 9), "a wire that ends on another one's middle");
        check.no(together(x, 0, 0, 2, 0), "an end on a middle joins nothing");
        check.due(3, x.wire(0, 1, 0, 3, 0), "a wire that lies on another one");
        check.due(4, x.wire(0, 3, 0, 4, 9), "its other end");
        check.no(together(x, 0, 0, 2, 0), "wires that lie on one another are not joined");
        check.due(5, x.wire(0, 0, 0, 4, 0), "the same wire again");
        NetJoins two = oneSheet();
        two.sheet(-1, -1);
        two.pin(0, 0, 0, 1);
        two.pin(1, 4, 0, 1);
        two.wire(0, 0, 0, 4, 0);
        two.wire(1, 0, 0, 4, 0);
        check.due(2, two.nets(), "wires on other sheets do not touch");
    }

    private static void wireGeometry() {
        check.about("promise 3, places");
        NetJoins x = oneSheet();
        x.wire(0, -FAR, -FAR, FAR, FAR - 1);
        x.pin(0, -FAR, -FAR, 1);
        x.pin(0, FAR, FAR - 1, 1);
        x.pin(0, 0, 0, 1);
        x.pin(0, FAR, FAR, 1);
        check.yes(together(x, 0, 0, 1, 0), "the farthest ends");
        check.no(together(x, 0, 0, 2, 0), "a place just beside the wire");
        check.no(together(x, 0, 0, 3, 0), "a place just behind its end");
        x.wire(0, FAR, -FAR, -FAR, FAR);
        x.pin(0, FAR, -FAR, 1);
        check.yes(together(x, 4, 0, 2, 0), "the middle of a falling wire");
        NetJoins y = oneSheet();
        y.wire(0, 2, 1, 6, 3);
        y.pin(0, 4, 2, 1);
        y.pin(0, 6, 3, 1);
        y.pin(0, 8, 4, 1);
        y.pin(0, 0, 0, 1);
        y.pin(0, 5, 2, 1);
        check.yes(together(y, 0, 0, 1, 0), "a slanting wire's middle and end");
        check.no(together(y, 0, 0, 2, 0), "on its line, behind it");
        check.no(together(y, 0, 0, 3, 0), "on its line, before it");
        check.no(together(y, 0, 0, 4, 0), "within its box, beside it");
        NetJoins z = oneSheet();
        z.wire(0, 0, 0, 1 << 20, 1 << 20);
        z.pin(0, 0, 0, 1);
        z.pin(0, 0, 1 << 12, 1);
        z.pin(0, 1 << 12, 1 << 12, 1);
        check.no(together(z, 0, 0, 1, 0), "beside it by a power of two");
        check.yes(together(z, 0, 0, 2, 0), "on it by a power of two");
    }

    private static void wireErrors() {
        check.about("promise 3, errors");
        NetJoins x = threeSheets();
        check.throwsOut(() -> x.wire(-1, 0, 0, 1, 0), "wire on sheet -1");
        check.throwsOut(() -> x.wire(3, FAR + 1, 0, 1, 0), "wire on sheet 3");
        check.throwsState(() -> x.wire(2, 0, 0, 0, 0), "wire on a repeat");
        check.throwsArgument(() -> x.wire(1, 5, 5, 5, 5), "wire of one place");
        check.throwsArgument(() -> x.wire(1, FAR + 1, 0, 1, 0), "x too great");
        check.throwsArgument(() -> x.wire(1, 0, FAR + 1, 1, 0), "y too great");
        check.throwsArgument(() -> x.wire(1, 0, 0, -FAR - 1, 0), "x2 too small");
        check.throwsArgument(() -> x.wire(1, 0, 0, 1, -FAR - 1), "y2 too small");
        check.throwsArgument(() -> x.wire(1, Long.MIN_VALUE, 0, Long.MAX_VALUE, 0), "the ends of long");
        check.due(0, x.wire(1, -FAR, -FAR, FAR, FAR), "the farthest wire");
    }

    private static void wireLimit() {
        check.about("promise 3, limit");
        NetJoins x = oneSheet();
        x.sheet(-1, 0);
        for (int i = 0; i < 100; i++) {
            check.due(i, x.wire(0, i, 0, i, 1), "wire " + i);
        }
        check.due(-1, x.wire(0, 0, 0, 1, 0), "a 101st wire");
        x.drop(7);
        check.due(-1, x.wire(0, 0, 0, 1, 0), "a 101st wire after a drop");
        check.throwsArgument(() -> x.wire(0, 1, 1, 1, 1), "a wrong 101st wire");
        check.throwsState(() -> x.wire(1, 0, 0, 1, 0), "a 101st wire on a repeat");
        check.throwsOut(() -> x.wire(2, 0, 0, 1, 0), "a 101st wire on no sheet");
    }

    // ---- promise 4

    private static void junctions() {
        check.about("promise 4");
        NetJoins x = oneSheet();
        x.sheet(-1, -1);
        x.pin(0, 0, 0, 1);
        x.pin(0, 5, 9, 1);
        x.pin(0, 9, 9, 1);
        x.wire(0, 0, 0, 9, 0);
        x.wire(0, 5, -5, 5, 9);
        check.yes(x.junction(1, 5, 0), "junction on another sheet");
        check.no(together(x, 0, 0, 1, 0), "it joins nothing here");
        check.yes(x.junction(0, 5, 0), "junction at a crossing");
        check.yes(together(x, 0, 0, 1, 0), "it joins both wires");
        check.no(x.junction(0, 5, 0), "the same again");
        x.wire(0, 5, 0, 9, 9);
        check.yes(together(x, 0, 0, 2, 0), "a later wire that ends at the junction");
        check.yes(x.junction(0, -FAR, FAR), "junction where nothing is");
        check.due(1, x.nets(), "nets()");
        NetJoins y = oneSheet();
        y.pin(0, 5, 0, 1);
        y.pin(0, 5, 9, 1);
        y.wire(0, 5, 9, 7, 9);
        y.junction(0, 5, 9);
        y.junction(0, 5, 0);
        check.due(2, y.nets(), "junctions do not join one another");
    }

    private static void junctionErrors() {
        check.about("promise 4, errors");
        NetJoins x = threeSheets();
        check.throwsOut(() -> x.junction(3, FAR + 1, 0) ? 1 : 0, "junction on sheet 3");
        check.throwsState(() -> x.junction(2, FAR + 1, 0) ? 1 : 0, "junction on a repeat");
        check.throwsArgument(() -> x.junction(1, FAR + 1, 0) ? 1 : 0, "x too great");
        check.throwsArgument(() -> x.junction(1, 0, -FAR - 1) ? 1 : 0, "y too small");
        for (int i = 0; i < 50; i++) {
            check.yes(x.junction(i % 2, i, 0), "junction " + i);
        }
        check.no(x.junction(0, 77, 0), "a 51st junction");
        check.throwsArgument(() -> x.junction(0, FAR + 1, 0) ? 1 : 0, "a wrong 51st junction");
    }

    // ---- promise 5

    private static void labels() {
        check.about("promise 5");
        NetJoins x = oneSheet();
        x.sheet(-1, -1);
        for (int i = 0; i < 6; i++) {
            x.pin(i < 4 ? 0 : 1, 10 * i, 0, 1);
        }
        check.due(0, x.label(0, 0, 0, 5), "a label on a pin");
        check.due(1, x.label(0, 10, 0, 5), "the same name again");
        check.yes(together(x, 0, 0, 1, 0), "one name on one sheet");
        x.wire(0, 20, 0, 20, 9);
        x.label(0, 20, 4, 5);
        check.yes(together(x, 0, 0, 2, 0), "a label in the middle of a wire");
        x.label(1, 40, 0, 5);
        check.no(together(x, 0, 0, 4, 0), "the same name on another sheet");
        x.label(0, 30, 0, 899);
        x.label(1, 50, 0, 899);
        check.no(together(x, 3, 0, 5, 0), "899 is no power name");
        x.label(0, 30, 0, 900);
        x.label(1, 50, 0, 900);
        check.yes(together(x, 3, 0, 5, 0), "900 is a power name");
        check.no(together(x, 0, 0, 3, 0), "other names");
        x.label(0, 99, 99, 5);
        x.label(0, 99, 99, 899);
        check.yes(together(x, 0, 0, 3, 0), "two labels of one place");
        NetJoins y = oneSheet();
        y.label(0, 4, 0, 77);
        y.pin(0, 0, 0, 1);
        y.wire(0, 0, 0, 9, 0);
        check.due(77, y.name(0), "a wire told after its label");
    }

    private static void labelErrors() {
        check.about("promise 5, errors");
        NetJoins x = threeSheets();
        check.throwsOut(() -> x.label(3, 0, 0, -1), "label on sheet 3");
        check.throwsState(() -> x.label(2, FAR + 1, 0, -1), "label on a repeat");
        check.throwsArgument(() -> x.label(1, 0, 0, -1), "name -1");
        check.throwsArgument(() -> x.label(1, 0, 0, 1000), "name 1000");
        check.throwsArgument(() -> x.label(1, -FAR - 1, 0, 0), "x too small");
        check.throwsArgument(() -> x.label(1, 0, FAR + 1, 0), "y too great");
        for (int i = 0; i < 60; i++) {
            check.due(i, x.label(1, i, 0, i == 0 ? 999 : 0), "label " + i);
        }
        check.due(-1, x.label(1, 0, 0, 0), "a 61st label");
        check.throwsArgument(() -> x.label(1, 0, 0, 1000), "a wrong 61st label");
    }

    // ---- promise 6

    private static void pins() {
        check.about("promise 6");
        NetJoins x = oneSheet();
        x.sheet(-1, -1);
        check.due(0, x.pin(0, 0, 0, 1), "pin");
        check.due(-1, x.pin(0, 0, 0, 1), "the same part at the same place");
        check.due(1, x.pin(0, 0, 0, Integer.MIN_VALUE), "another part at the same place");
        check.yes(together(x, 0, 0, 1, 0), "pins of one place");
        check.due(2, x.pin(0, 0, 1, 1), "the same part at another place");
        check.no(together(x, 0, 0, 2, 0), "pins of one part");
        check.due(3, x.pin(1, 0, 0, 1), "the same part and place on another sheet");
        check.no(together(x, 0, 0, 3, 0), "pins of one place on other sheets");
        x.wire(0, 0, -4, 0, 4);
        check.yes(together(x, 0, 0, 2, 0), "a wire through both");
        check.due(4, x.pin(0, 0, 4, 1), "a later pin at its end");
        check.yes(together(x, 0, 0, 4, 0), "it is joined too");
    }

    private static void pinErrors() {
        check.about("promise 6, errors");
        NetJoins x = threeSheets();
        check.throwsOut(() -> x.pin(3, FAR + 1, 0, 1), "pin on sheet 3");
        check.throwsOut(() -> x.pin(-1, 0, 0, 1), "pin on sheet -1");
        check.throwsState(() -> x.pin(2, FAR + 1, 0, 1), "pin on a repeat");
        check.throwsArgument(() -> x.pin(1, FAR + 1, 0, 1), "x too great");
        check.throwsArgument(() -> x.pin(1, 0, -FAR - 1, 1), "y too small");
        for (int i = 0; i < 60; i++) {
            check.due(i, x.pin(1, FAR - i, -FAR, -i), "pin " + i);
        }
        check.due(-1, x.pin(1, 0, 0, 1), "a 61st pin");
        check.throwsArgument(() -> x.pin(1, 0, FAR + 1, 1), "a wrong 61st pin");
        check.due(119, x.netOf(59, 1), "netOf(59, 1)");
    }

    // ---- promise 7

    private static void ports() {
        check.about("promise 7");
        NetJoins x = threeSheets();
        x.pin(0, 0, 0, 1);
        x.label(0, 0, 0, 20);
        x.pin(1, 0, 0, 1);
        x.label(1, 0, 0, 3);
        check.yes(x.port(1, 1, 20), "port of a drawn sheet");
        check.yes(together(x, 0, 0, 1, 0), "the label and the parent's name");
        check.no(together(x, 0, 0, 1, 1), "a port is not repeated");
        check.no(x.port(1, 1, 20), "the same again");
        check.yes(x.port(1, 1, 21), "another name");
        x.pin(0, 9, 9, 1);
        x.label(0, 9, 9, 21);
        check.yes(together(x, 0, 0, 2, 0), "both names of the parent, by the label");
        check.yes(x.port(2, 1, 950), "a power name of the parent");
        x.pin(0, 5, 5, 1);
        x.label(0, 5, 5, 950);
        check.yes(together(x, 3, 0, 1, 1), "the power name and the repeat's label");
        check.no(together(x, 3, 0, 1, 0), "but not the drawn sheet's");
    }

    private static void portsOfRepeats() {
        check.about("promise 7, repeats");
        NetJoins x = threeSheets();
        x.sheet(2, -1);
        x.pin(1, 0, 0, 1);
        x.label(1, 0, 0, 8);
        x.pin(3, 0, 0, 1);
        x.label(3, 0, 0, 4);
        check.yes(x.port(3, 1, 8), "port of a sheet in a repeat");
        check.yes(together(x, 0, 1, 1, 0), "the name on the repeat");
        check.no(together(x, 0, 0, 1, 0), "not that on the drawn sheet");
        x.sheet(1, 3);
        check.no(together(x, 0, 0, 1, 1), "a new repeat has no ports");
        check.yes(x.port(4, 1, 8), "its own port");
        check.yes(together(x, 0, 0, 1, 1), "its own parent's name");
        check.yes(x.same(), "same()");
    }

    private static void portErrors() {
        check.about("promise 7, errors");
        NetJoins x = threeSheets();
        x.label(0, 0, 0, 1);
        x.label(1, 0, 0, 1);
        check.throwsOut(() -> x.port(3, 0, 1) ? 1 : 0, "port of sheet 3");
        check.throwsOut(() -> x.port(-1, 0, 1) ? 1 : 0, "port of sheet -1");
        check.throwsOut(() -> x.port(1, 2, 1) ? 1 : 0, "port of label 2");
        check.throwsOut(() -> x.port(1, -1, 1) ? 1 : 0, "port of label -1");
        check.throwsOut(() -> x.port(1, 0, 1) ? 1 : 0, "port of another sheet's label");
        check.throwsOut(() -> x.port(2, 0, 1) ? 1 : 0, "port of a repeat, of another sheet's label");
        check.throwsOut(() -> x.port(0, 1, 1000) ? 1 : 0, "labels are looked at before parents");
        check.throwsState(() -> x.port(0, 0, 1000) ? 1 : 0, "parents are looked at before names");
        check.throwsArgument(() -> x.port(1, 1, 1000) ? 1 : 0, "name 1000");
        check.throwsArgument(() -> x.port(2, 1, -1) ? 1 : 0, "name -1");
    }

    private static void portLimit() {
        check.about("promise 7, limit");
        NetJoins x = threeSheets();
        x.label(0, 0, 0, 1);
        x.label(1, 0, 0, 1);
        for (int i = 0; i < 30; i++) {
            check.yes(x.port(1 + i % 2, 1, i), "port " + i);
        }
        check.no(x.port(1, 1, 99), "a 31st port");
        check.throwsState(() -> x.port(0, 0, 1) ? 1 : 0, "a 31st port without a parent");
    }

    // ---- promise 8

    /** Pins 0 .. count - 1 with labels of the names first, first + 1, .. */
    private static void named(NetJoins x, int sheet, int count, int first) {
        for (int i = 0; i < count; i++) {
            x.pin(sheet, first + i, 7, 1);
            x.label(sheet, first + i, 7, first + i);
        }
    }

    private static void buses() {
        check.about("promise 8");
        NetJoins x = oneSheet();
        x.sheet(-1, 0);
        x.sheet(-1, -1);
        named(x, 0, 3, 30);
        named(x, 0, 3, 40);
        check.yes(x.bus(2, 7, 42, 40), "a bus of this name on another sheet");
        check.yes(x.bus(0, 7, 30, 32), "bus up");
        check.yes(x.bus(0, 8, 42, 40), "a bus of another name");
        check.due(12, x.nets(), "they join nothing");
        check.yes(x.bus(0, 7, 42, 40), "bus down");
        check.yes(together(x, 0, 0, 5, 0), "first members");
        check.yes(together(x, 1, 0, 4, 0), "second members");
        check.yes(together(x, 2, 0, 3, 0), "third members");
        check.yes(together(x, 2, 1, 3, 1), "third members on the repeat");
        check.no(together(x, 2, 0, 2, 1), "third members of other copies");
        check.due(6, x.nets(), "nets()");
        check.no(x.bus(0, 7, 30, 32), "just this one again");
        check.yes(x.bus(0, 7, 32, 30), "the other way round it is another one");
        check.yes(together(x, 0, 0, 2, 0), "so its ends are joined");
        check.yes(x.same(), "same()");
    }

    private static void busesOfSeveralLengths() {
        check.about("promise 8, lengths");
        NetJoins x = oneSheet();
        named(x, 0, 3, 10);
        named(x, 0, 3, 20);
        x.bus(0, 7, 10, 12);
        x.bus(0, 7, 50, 50);
        x.bus(0, 7, 20, 29);
        check.yes(together(x, 0, 0, 3, 0), "first members past a short bus");
        check.yes(together(x, 2, 0, 5, 0), "third members past a short bus");
        named(x, 0, 1, 50);
        check.yes(together(x, 6, 0, 0, 0), "the only member of the short bus");
        x.bus(0, 7, 0, 9);
        x.pin(0, 9, 7, 1);
        x.label(0, 9, 7, 9);
        named(x, 0, 1, 29);
        check.yes(together(x, 7, 0, 8, 0), "tenth members");
        NetJoins y = oneSheet();
        named(y, 0, 1, 5);
        named(y, 0, 1, 505);
        y.bus(0, 1, 0, 99);
        y.bus(0, 1, 200, 299);
        y.bus(0, 2, 200, 299);
        y.bus(0, 2, 500, 599);
        check.yes(together(y, 0, 0, 1, 0), "names without labels lead on");
        check.due(5, y.name(0), "name(0)");
        check.due(505, y.told(0), "told(0): no name without a label");
        check.due(-1, y.told(1), "told(1)");
    }

    private static void powerBuses() {
        check.about("promise 8, power names");
        NetJoins x = threeSheets();
        named(x, 0, 2, 20);
        named(x, 1, 2, 3);
        check.yes(x.bus(1, 899, 3, 4), "bus 899");
        check.yes(x.bus(0, 899, 20, 21), "bus 899 on another sheet");
        check.due(6, x.nets(), "they join nothing");
        check.yes(x.bus(1, 900, 3, 4), "bus 900");
        check.yes(together(x, 2, 0, 2, 1), "with that on the repeat, first members");
        check.yes(together(x, 3, 0, 3, 1), "second members");
        check.no(together(x, 2, 0, 3, 0), "first and second members");
        check.yes(x.bus(0, 900, 21, 20), "bus 900 on another sheet");
        check.yes(together(x, 1, 0, 2, 0), "first members on other sheets");
        check.yes(together(x, 0, 0, 3, 1), "second members on other sheets");
        x.sheet(-1, 1);
        check.yes(together(x, 2, 2, 2, 0), "on a later repeat");
        check.due(2, x.nets(), "nets()");
        x.bus(0, 5, 898, 901);
        x.bus(0, 5, 20, 20);
        x.pin(0, 1, 1, 1);
        x.label(0, 1, 1, 898);
        check.yes(together(x, 4, 0, 0, 0), "members on both sides of 900");
        check.yes(x.same(), "same()");
    }

    private static void busErrors() {
        check.about("promise 8, errors");
        NetJoins x = threeSheets();
        check.throwsOut(() -> x.bus(3, -1, 0, 0) ? 1 : 0, "bus on sheet 3");
        check.throwsState(() -> x.bus(2, -1, 0, 0) ? 1 : 0, "bus on a repeat");
        check.throwsArgument(() -> x.bus(1, -1, 0, 0) ? 1 : 0, "name -1");
        check.throwsArgument(() -> x.bus(1, 1000, 0, 0) ? 1 : 0, "name 1000");
        check.throwsArgument(() -> x.bus(1, 0, -1, 0) ? 1 : 0, "from -1");
        check.throwsArgument(() -> x.bus(1, 0, 1000, 0) ? 1 : 0, "from 1000");
        check.throwsArgument(() -> x.bus(1, 0, 0, -1) ? 1 : 0, "to -1");
        check.throwsArgument(() -> x.bus(1, 0, 0, 1000) ? 1 : 0, "to 1000");
        for (int i = 0; i < 16; i++) {
            check.yes(x.bus(i % 2, 0, 0, i == 15 ? 999 : i), "bus " + i);
        }
        check.no(x.bus(0, 9, 9, 9), "a 17th bus");
        check.throwsArgument(() -> x.bus(0, 9, 9, 1000) ? 1 : 0, "a wrong 17th bus");
        check.throwsState(() -> x.bus(2, 9, 9, 9) ? 1 : 0, "a 17th bus on a repeat");
    }

    // ---- promises 9 and 10

    private static void nets() {
        check.about("promise 9");
        NetJoins x = oneSheet();
        x.wire(0, 0, 0, 5, 0);
        x.label(0, 0, 0, 1);
        check.due(0, x.nets(), "wires and labels alone are no net");
        x.pin(0, 9, 9, 1);
        check.due(1, x.nets(), "a pin alone is a net");
        x.pin(0, 5, 0, 1);
        check.due(2, x.nets(), "two nets");
        x.sheet(-1, 0);
        check.due(4, x.nets(), "and their copies");
        x.wire(0, 5, 0, 9, 9);
        check.due(2, x.nets(), "joined on both sheets");
    }

    private static void netOf() {
        check.about("promise 10");
        NetJoins x = oneSheet();
        x.sheet(-1, 0);
        for (int i = 0; i < 4; i++) {
            x.pin(0, 10 * i, 0, 1);
        }
        int[] nets = {0, 1, 2, 3, 4, 5, 6, 7};
        for (int i = 0; i < 8; i++) {
            check.due(nets[i], x.netOf(i / 2, i % 2), "netOf(" + i / 2 + ", " + i % 2 + ")");
        }
        x.wire(0, 0, 0, 30, 9);
        x.wire(0, 30, 9, 30, 0);
        int[] joined = {0, 1, 2, 3, 4, 5, 0, 1};
        for (int i = 0; i < 8; i++) {
            check.due(joined[i], x.netOf(i / 2, i % 2), "joined, netOf(" + i / 2 + ", " + i % 2 + ")");
        }
        check.throwsOut(() -> x.netOf(-1, 0), "netOf(-1, 0)");
        check.throwsOut(() -> x.netOf(4, 0), "netOf(4, 0)");
        check.throwsOut(() -> x.netOf(0, -1), "netOf(0, -1)");
        check.throwsOut(() -> x.netOf(0, 2), "netOf(0, 2)");
        check.throwsOut(() -> x.netOf(Integer.MAX_VALUE, Integer.MAX_VALUE), "netOf(greatest, greatest)");
    }

    // ---- promises 11 and 12

    private static void ranks() {
        check.about("promise 11");
        NetJoins x = oneSheet();
        x.pin(0, 0, 0, 1);
        x.label(0, 0, 0, 5);
        x.label(0, 0, 0, 7);
        check.no(x.rank(7, 0), "rank 0 at first");
        check.yes(x.rank(7, 9), "rank 9");
        check.no(x.rank(7, 9), "rank 9 again");
        check.due(7, x.name(0), "the higher rank");
        check.due(5, x.told(0), "the other name");
        check.yes(x.rank(7, -9), "rank -9");
        check.due(5, x.name(0), "the lower rank");
        check.due(7, x.told(0), "the other name then");
        check.throwsArgument(() -> x.rank(7, 10) ? 1 : 0, "rank 10");
        check.throwsArgument(() -> x.rank(7, -10) ? 1 : 0, "rank -10");
        check.throwsArgument(() -> x.rank(-1, 0) ? 1 : 0, "name -1");
        check.throwsArgument(() -> x.rank(1000, 0) ? 1 : 0, "name 1000");
        check.no(x.rank(7, -9), "a wrong rank has changed nothing");
        check.yes(x.rank(0, 1), "name 0");
        check.yes(x.rank(999, 1), "name 999");
    }

    private static void names() {
        check.about("promise 12");
        NetJoins x = oneSheet();
        x.sheet(-1, 0);
        x.pin(0, 0, 0, 1);
        x.pin(0, 5, 0, 1);
        check.due(-1, x.name(0), "no label, pin 0");
        check.due(-1, x.name(1), "no label, pin 0, copy 1");
        check.due(-2, x.name(2), "no label, pin 1");
        x.label(0, 5, 0, 30);
        check.due(30, x.name(3), "a label's copy");
        check.due(-1, x.name(0), "another net's label");
        x.label(0, 9, 9, 30);
        x.label(0, 9, 9, 0);
        check.due(0, x.name(2), "the least one of all that are joined, name 0");
        x.rank(0, -1);
        check.due(30, x.name(2), "the higher rank");
        x.label(0, 9, 9, 29);
        check.due(29, x.name(2), "the least one of the same rank");
        check.throwsOut(() -> x.name(-1), "name(-1)");
        check.throwsOut(() -> x.name(4), "name(4)");
    }

    // ---- promise 13

    private static void drop() {
        check.about("promise 13");
        NetJoins x = oneSheet();
        x.sheet(-1, 0);
        x.pin(0, 0, 0, 1);
        x.pin(0, 9, 0, 1);
        x.pin(0, 20, 0, 1);
        x.wire(0, 0, 0, 9, 0);
        x.wire(0, 0, 0, 9, 0);
        x.wire(0, 20, 0, 30, 0);
        check.due(0, x.drop(0), "drop(0), its double is left");
        check.due(-1, x.changed(0), "changed(0)");
        check.due(4, x.drop(1), "drop(1), on both sheets");
        check.due(6, x.nets(), "nets()");
        int[] changed = {0, 1, 2, 3, -1};
        for (int i = 0; i < 5; i++) {
            check.due(changed[i], x.changed(i), "changed(" + i + ")");
        }
        check.throwsOut(() -> x.drop(1), "drop(1) again");
        check.throwsOut(() -> x.drop(3), "drop(3)");
        check.throwsOut(() -> x.drop(-1), "drop(-1)");
        check.due(0, x.drop(2), "drop(2), at a pin alone");
        check.due(3, x.wire(0, 0, 0, 9, 0), "numbers are not used again");
        check.due(4, x.nets(), "nets()");
    }

    private static void dropKeepsTheRest() {
        check.about("promise 13, the rest");
        NetJoins x = threeSheets();
        named(x, 0, 2, 20);
        named(x, 1, 2, 3);
        x.wire(0, 20, 7, 20, 9);
        x.wire(0, 20, 9, 30, 9);
        x.pin(0, 30, 9, 1);
        x.wire(0, 25, 0, 25, 20);
        x.pin(0, 25, 20, 1);
        x.junction(0, 25, 9);
        x.port(1, 2, 20);
        x.bus(1, 7, 3, 3);
        x.bus(1, 7, 4, 4);
        check.due(3, x.nets(), "nets()");
        check.yes(together(x, 0, 0, 5, 0), "through the junction");
        check.due(2, x.drop(0), "drop(0)");
        check.yes(together(x, 4, 0, 5, 0), "the junction still joins");
        check.yes(together(x, 0, 0, 3, 0), "port and buses still join");
        check.yes(together(x, 2, 1, 3, 1), "buses on the repeat still join");
        check.no(together(x, 0, 0, 4, 0), "what the wire joined");
        check.due(2, x.drop(1), "drop(1)");
        check.no(together(x, 4, 0, 5, 0), "one wire through a junction");
        x.pin(0, 22, 9, 1);
        check.no(together(x, 6, 0, 4, 0), "a dropped wire joins no later pin");
        x.wire(0, 30, 9, 30, 30);
        check.no(together(x, 4, 0, 5, 0), "nor a later wire");
    }

    // ---- promise 14

    private static void open() {
        check.about("promise 14");
        NetJoins x = oneSheet();
        x.pin(0, 0, 0, 1);
        x.pin(0, 0, 0, 2);
        check.yes(x.open(1), "open(1)");
        check.due(200_000_001, x.told(0), "told(0)");
        check.no(x.open(1), "open(1) again");
        check.due(-1, x.told(0), "told(0) then");
        check.yes(x.open(1), "open(1) once more");
        check.yes(x.open(0), "open(0)");
        check.due(200_000_000, x.told(0), "told(0), rising");
        check.due(200_000_001, x.told(1), "told(1), rising");
        check.throwsOut(() -> x.open(2) ? 1 : 0, "open(2)");
        check.throwsOut(() -> x.open(-1) ? 1 : 0, "open(-1)");
    }

    // ---- promise 15

    private static void told() {
        check.about("promise 15");
        NetJoins x = oneSheet();
        x.sheet(-1, 0);
        x.pin(0, 0, 0, 1);
        x.label(0, 0, 0, 999);
        x.label(0, 0, 0, 8);
        x.label(0, 50, 50, 8);
        x.label(0, 0, 0, 0);
        x.label(0, 60, 60, 0);
        x.pin(0, 5, 5, 1);
        x.label(0, 5, 5, 4);
        x.label(0, 5, 5, 3);
        x.open(1);
        x.open(0);
        // The power name joins both copies of pin 0; pin 1's copies are nets of their own.
        int[] due = {8, 999, 1004, 2004, 100_000_002, 100_000_004, 200_000_000, -1};
        for (int i = 0; i < due.length; i++) {
            check.due(due[i], x.told(i), "told(" + i + ")");
        }
        check.due(-1, x.told(-1), "told(-1)");
        check.due(-1, x.told(Integer.MIN_VALUE), "told(least)");
        check.due(-1, x.told(Integer.MAX_VALUE), "told(greatest)");
        x.rank(999, 3);
        check.due(0, x.told(0), "the least name is another one now");
        check.due(8, x.told(1), "told(1) then");
    }

    private static void toldOfLooseLabels() {
        check.about("promise 15, labels");
        NetJoins x = oneSheet();
        x.sheet(-1, -1);
        x.label(0, 5, 0, 1);
        x.label(0, 5, 0, 2);
        check.due(100_000_000, x.told(0), "a label alone");
        check.due(100_000_001, x.told(1), "labels of one place hold one another not");
        x.pin(1, 5, 0, 1);
        x.wire(1, 5, 0, 9, 0);
        x.junction(0, 5, 0);
        check.due(100_000_000, x.told(0), "another sheet's things, or a junction");
        x.wire(0, 0, 0, 9, 0);
        check.due(-1, x.told(0), "a wire through it");
        x.drop(1);
        check.due(100_000_001, x.told(1), "a dropped wire");
        x.pin(0, 5, 0, 1);
        check.due(1002, x.told(0), "a pin: both names are the net's");
        check.due(-1, x.told(1), "a pin");
    }

    private static void toldOfOpenPins() {
        check.about("promise 15, open pins");
        NetJoins x = threeSheets();
        x.pin(1, 0, 0, 1);
        x.open(0);
        check.due(-1, x.told(0), "copies by themselves");
        x.label(1, 0, 0, 3);
        x.pin(0, 0, 0, 1);
        x.label(0, 0, 0, 20);
        check.due(-1, x.told(0), "a label is no pin");
        x.port(2, 0, 20);
        check.due(1020, x.told(0), "the other name");
        check.due(200_000_000, x.told(1), "copy 1 is joined to another pin");
        NetJoins y = threeSheets();
        y.pin(1, 0, 0, 1);
        y.open(0);
        y.label(1, 0, 0, 950);
        check.due(200_000_000, y.told(0), "two copies of the pin itself");
    }

    // ---- promise 16

    private static void same() {
        check.about("promise 16");
        NetJoins x = threeSheets();
        named(x, 0, 3, 20);
        named(x, 1, 3, 3);
        x.port(2, 3, 20);
        x.bus(1, 901, 3, 5);
        x.bus(0, 901, 22, 20);
        x.wire(0, 20, 7, 30, 7);
        check.yes(x.same(), "same()");
        int[] nets = new int[6];
        for (int i = 0; i < 6; i++) {
            nets[i] = x.netOf(i, 0);
        }
        int changed = x.changed(0);
        int remark = x.told(1);
        check.yes(x.same(), "same() again");
        for (int i = 0; i < 6; i++) {
            check.due(nets[i], x.netOf(i, 0), "netOf(" + i + ", 0) after same()");
        }
        check.due(changed, x.changed(0), "changed(0) after same()");
        check.due(remark, x.told(1), "told(1) after same()");
        x.drop(0);
        check.yes(x.same(), "same() after a drop");
    }

    // ---- promise 17

    private static void changed() {
        check.about("promise 17");
        NetJoins x = oneSheet();
        for (int i = 0; i < 5; i++) {
            x.pin(0, 10 * i, 0, 1);
            check.due(i, x.changed(0), "a new pin's net");
            check.due(-1, x.changed(1), "no other net");
        }
        x.wire(0, 10, 0, 30, 9);
        check.due(-1, x.changed(0), "a wire at one pin");
        x.wire(0, 30, 9, 30, 0);
        check.due(1, x.changed(0), "two nets become one");
        check.due(-1, x.changed(1), "nets that only have another number are not changed");
        check.due(3, x.netOf(4, 0), "netOf(4, 0)");
        x.pin(0, 10, 0, 2);
        check.due(1, x.changed(0), "a pin more");
        check.due(-1, x.changed(1), "a pin more, no other");
        check.due(2, x.drop(1), "drop(1)");
        check.due(1, x.changed(0), "what is left of the net");
        check.due(3, x.changed(1), "what has come out of it");
        check.due(-1, x.changed(2), "no more");
        check.due(-1, x.changed(-1), "changed(-1)");
        check.due(-1, x.changed(Integer.MIN_VALUE), "changed(least)");
        check.due(-1, x.changed(Integer.MAX_VALUE), "changed(greatest)");
    }

    private static void changedByEachKind() {
        check.about("promise 17, each kind of call");
        NetJoins x = threeSheets();
        x.pin(0, 0, 0, 1);
        x.sheet(-1, -1);
        check.due(-1, x.changed(0), "a drawn sheet");
        x.sheet(-1, 0);
        check.due(1, x.changed(0), "a repeat has the copy");
        check.due(-1, x.changed(1), "and no more");
        x.wire(0, -5, 0, 5, 0);
        check.due(-1, x.changed(0), "a wire");
        x.pin(0, 7, 7, 1);
        check.due(2, x.changed(0), "a pin, copy 0");
        check.due(3, x.changed(1), "a pin, copy 1");
        x.wire(0, 0, 7, 7, 7);
        x.wire(0, 0, 7, 0, -7);
        check.due(0, x.changed(0), "a wire that joins");
        check.due(1, x.changed(1), "a wire that joins, on the repeat");
        x.pin(0, 5, 0, 1);
        check.due(-1, x.changed(2), "a pin on the wires that are joined by a pin");
        x.label(0, 0, 0, 950);
        check.due(0, x.changed(0), "a label");
        check.due(-1, x.changed(1), "a label, no more");
        x.label(1, 0, 0, 3);
        check.due(-1, x.changed(0), "a label of no net");
        x.pin(1, 0, 0, 1);
        check.due(1, x.changed(0), "a pin on the label");
        check.due(2, x.changed(1), "its copy");
        x.port(2, 1, 950);
        check.due(0, x.changed(0), "a port");
        check.due(-1, x.changed(1), "a port, no more");
        x.bus(1, 950, 3, 3);
        check.due(0, x.changed(0), "a bus");
        check.due(-1, x.changed(1), "a bus, no more");
        x.junction(0, 1, 1);
        check.due(-1, x.changed(0), "a junction of nothing");
    }

    // ---- terms

    private static void callsThatChangeNothing() {
        check.about("calls that change nothing");
        NetJoins x = oneSheet();
        x.pin(0, 0, 0, 1);
        x.pin(0, 9, 0, 1);
        x.wire(0, 0, 0, 9, 0);
        check.due(0, x.changed(0), "changed(0)");
        x.rank(3, 4);
        x.open(0);
        x.same();
        x.told(0);
        check.due(-1, x.pin(0, 0, 0, 1), "a pin that is there");
        check.throwsArgument(() -> x.label(0, 0, 0, 1000), "a wrong label");
        check.throwsOut(() -> x.drop(1), "drop of no wire");
        check.throwsState(() -> x.port(0, labelAt(x), 1) ? 1 : 0, "port without a parent");
        check.due(-1, x.changed(0), "the label has changed no net");
        x.sheet(0, 0);
        check.due(1, x.changed(0), "changed(0) by the sheet");
        check.throwsOut(() -> x.sheet(5, 0), "a wrong sheet");
        check.throwsState(() -> x.sheet(0, 1), "a repeat of a repeat");
        check.no(x.bus(0, 1, 1, 1) && x.bus(0, 1, 1, 1), "a bus that is told");
        check.due(-1, x.changed(0), "changed(0) by the bus");
        x.pin(0, 4, 0, 1);
        check.due(0, x.changed(0), "changed(0) by the pin");
        check.no(x.bus(0, 1, 1, 1), "the bus again");
        check.due(1, x.changed(1), "changed(1) by the pin still");
    }

    private static int labelAt(NetJoins x) {
        return x.label(0, 0, 0, 9);
    }

    /** All that fits: 60 pins and labels on 16 sheets, each with its own name, and remarks for each. */
    private static void fullObject() {
        check.about("full object");
        NetJoins x = oneSheet();
        for (int i = 0; i < 60; i++) {
            x.pin(0, i, 0, 1);
            x.label(0, i, 0, 10 * i);
        }
        for (int i = 1; i < 16; i++) {
            x.sheet(0, 0);
        }
        check.due(960, x.nets(), "nets()");
        check.due(959, x.netOf(59, 15), "netOf(59, 15)");
        check.due(590, x.name(959), "name(959)");
        check.due(-1, x.told(0), "told(0)");
        for (int i = 0; i < 16; i++) {
            x.bus(0, 1, i, 899 - i);
        }
        x.wire(0, 0, 0, 59, 0);
        check.due(16, x.nets(), "nets() with a wire through all");
        check.due(10, x.told(0), "told(0) then");
        check.due(15_590, x.told(16 * 59 - 1), "the last remark");
        check.due(-1, x.told(16 * 59), "and none after it");
        for (int i = 0; i < 60; i++) {
            x.open(i);
        }
        check.due(200_000_059, x.told(16 * 59 + 59), "the last open pin");
        check.yes(x.same(), "same()");
        x.drop(0);
        check.yes(x.same(), "same() after the drop");
    }
}
