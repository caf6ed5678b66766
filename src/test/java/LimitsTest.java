/**
 * For each sentence of the document that says what is taken and what is refused: the last value that is
 * taken and the first that is refused, nothing told yet, all full, and of two reasons the one that is
 * looked at first. Each refused call is also looked at for having changed nothing.
 */
public final class LimitsTest extends Calls {
    private static final Check check = new Check();
    /** Far beyond, on both sides, and what would be 0 if it were cut down to an int. */
    private static final long[] NO_PLACES = {
        -FAR - 1, FAR + 1, Long.MIN_VALUE, Long.MAX_VALUE, 1L << 32, -(1L << 32)};
    private static final int[] NO_NAMES = {-1, 1000, LEAST, GREATEST};
    private static final int[] LAST_NAMES = {0, 899, 900, 999};

    public static void main(String[] args) {
        nothingToldYet();
        sheetParents();
        sheetsRepeated();
        sheetOrder();
        sheetsFull();
        repeatsFull();
        sheetsOfThings();
        wirePlaces();
        wireOfOnePlace();
        wireOrder();
        wiresFull();
        junctionPlaces();
        junctionIsThere();
        junctionsFull();
        labelPlacesAndNames();
        labelsFull();
        pinPlacesAndParts();
        pinIsThere();
        pinsFull();
        portSheetsAndLabels();
        portParents();
        portNames();
        portIsTold();
        portsFull();
        busNames();
        busIsTold();
        busesFull();
        netsFromNoneToAll();
        netOfPins();
        netOfCopies();
        rankNames();
        rankBounds();
        nameOfNets();
        dropWires();
        dropAnswers();
        openPins();
        toldBounds();
        sameAlways();
        changedBounds();
        changedStays();
        lastCall();
        check.end();
    }

    private static Drawing drawing(String sentence, Call... first) {
        check.about(sentence);
        return new Drawing(check, first);
    }

    /** Sheet 0, in it sheet 1, and sheet 2, which repeats sheet 1, in sheet 0 too; pins on 0 and 1. */
    private static Drawing threeSheets(String sentence) {
        return drawing(sentence, sheet(NONE, NONE), sheet(0, NONE), sheet(0, 1),
                pin(0, 0, 0, 1), pin(0, 10, 0, 1), pin(1, 0, 0, 1), pin(1, 10, 0, 1));
    }

    // ---- promise 1

    private static void nothingToldYet() {
        Drawing d = drawing("1, No sheets");
        d.asks(0, nets());
        d.asks(NONE, told(0));
        d.asks(NONE, told(-1));
        d.asks(NONE, changed(0));
        d.asks(NONE, changed(-1));
        d.asks(YES, same());
        for (int s : new int[] {-2, -1, 0, 1, 15, LEAST, GREATEST}) {
            if (s != NONE) {
                d.refuses(OUT, sheet(s, NONE));
                d.refuses(OUT, sheet(NONE, s));
                d.refuses(OUT, sheet(s, s));
            }
            d.refuses(OUT, wire(s, 0, 0, 1, 0));
            d.refuses(OUT, junction(s, 0, 0));
            d.refuses(OUT, label(s, 0, 0, 0));
            d.refuses(OUT, pin(s, 0, 0, 0));
            d.refuses(OUT, port(s, s, 0));
            d.refuses(OUT, bus(s, 0, 0, 0));
            d.refuses(OUT, netOf(s, 0));
            d.refuses(OUT, name(s));
            d.refuses(OUT, drop(s));
            d.refuses(OUT, open(s));
        }
        d.takes(NO, rank(0, 0));
        d.takes(YES, rank(0, 1));
        d.takes(0, sheet(NONE, NONE));
        Drawing e = drawing("1, a sheet and nothing on it", sheet(NONE, NONE));
        e.asks(0, nets());
        e.asks(NONE, told(0));
        e.asks(NONE, changed(0));
        e.asks(YES, same());
        e.refuses(OUT, port(0, 0, 0));
        e.refuses(OUT, netOf(0, 0));
        e.refuses(OUT, name(0));
        e.refuses(OUT, drop(0));
        e.refuses(OUT, open(0));
    }

    // ---- promise 2

    private static void sheetParents() {
        Drawing d = drawing("2, when parent is no sheet, nor NONE", sheet(NONE, NONE));
        d.refuses(OUT, sheet(-2, NONE));
        d.refuses(OUT, sheet(1, NONE));
        d.refuses(OUT, sheet(LEAST, NONE));
        d.refuses(OUT, sheet(GREATEST, NONE));
        d.takes(1, sheet(NONE, NONE));
        d.takes(2, sheet(0, NONE));
        d.takes(3, sheet(2, NONE));
        d.refuses(OUT, sheet(4, NONE));
        d.takes(4, sheet(3, 0));
        d.takes(5, sheet(4, NONE));
    }

    private static void sheetsRepeated() {
        Drawing d = drawing("2, when of is no sheet, nor NONE; when of is not drawn", sheet(NONE, NONE));
        d.refuses(OUT, sheet(NONE, -2));
        d.refuses(OUT, sheet(NONE, 1));
        d.refuses(OUT, sheet(NONE, LEAST));
        d.refuses(OUT, sheet(NONE, GREATEST));
        d.tell(pin(0, 0, 0, 1));
        d.takes(1, sheet(NONE, 0));
        d.refuses(STATE, sheet(NONE, 1));
        d.refuses(STATE, sheet(0, 1));
        d.refuses(STATE, sheet(1, 1));
        d.asks(2, nets());
        d.takes(2, sheet(NONE, NONE));
        d.refuses(OUT, sheet(NONE, 3));
        d.takes(3, sheet(NONE, 2));
        d.refuses(STATE, sheet(NONE, 3));
        d.takes(4, sheet(0, 0));
        d.asks(3, nets());
    }

    private static void sheetOrder() {
        Drawing d = drawing("2, first whether sheets are there", sheet(NONE, NONE), sheet(NONE, 0));
        d.refuses(OUT, sheet(2, 1));
        d.refuses(OUT, sheet(-2, 1));
        d.refuses(STATE, sheet(1, 1));
        d.refuses(OUT, sheet(1, 2));
    }

    private static void sheetsFull() {
        Drawing d = drawing("2, NONE when there are 16");
        for (int i = 0; i < 15; i++) {
            d.takes(i, sheet(i - 1, NONE));
        }
        d.refuses(OUT, sheet(15, NONE));
        d.refuses(OUT, sheet(NONE, 15));
        d.takes(15, sheet(14, 0));
        d.tell(pin(0, 0, 0, 1), pin(14, 0, 0, 1));
        d.refuses(NONE, sheet(NONE, NONE));
        d.refuses(NONE, sheet(15, NONE));
        d.refuses(NONE, sheet(15, 14));
        d.refuses(NONE, sheet(NONE, 0));
        d.asks(3, nets());
        d.refuses(OUT, netOf(1, 1));
        d.refuses(OUT, sheet(16, NONE));
        d.refuses(OUT, sheet(NONE, 16));
        d.refuses(OUT, sheet(16, 15));
        d.refuses(STATE, sheet(NONE, 15));
    }

    private static void repeatsFull() {
        Drawing d = drawing("2, 15 repeats of one sheet", sheet(NONE, NONE), pin(0, 0, 0, 1));
        for (int i = 1; i < 16; i++) {
            d.refuses(OUT, netOf(0, i));
            d.takes(i, sheet(i - 1, 0));
            d.asks(i, netOf(0, i));
        }
        d.refuses(NONE, sheet(15, 0));
        d.refuses(OUT, netOf(0, 16));
        d.asks(16, nets());
    }

    /** NONE stands for a parent alone: nothing is told on sheet NONE. */
    private static void sheetsOfThings() {
        Drawing d = threeSheets("3 to 8, whether the sheet is there, and drawn");
        for (int s : new int[] {-2, -1, 3, 15, 16, LEAST, GREATEST}) {
            d.refuses(OUT, wire(s, 0, 0, 10, 0));
            d.refuses(OUT, junction(s, 0, 0));
            d.refuses(OUT, label(s, 0, 0, 900));
            d.refuses(OUT, pin(s, 0, 0, 2));
            d.refuses(OUT, bus(s, 900, 0, 0));
        }
        d.refuses(STATE, wire(2, 0, 0, 10, 0));
        d.refuses(STATE, junction(2, 0, 0));
        d.refuses(STATE, label(2, 0, 0, 900));
        d.refuses(STATE, pin(2, 0, 0, 2));
        d.refuses(STATE, bus(2, 900, 0, 0));
        d.takes(0, wire(1, 0, 0, 10, 0));
        d.takes(YES, junction(1, 0, 0));
        d.takes(0, label(1, 0, 0, 900));
        d.takes(4, pin(1, 0, 0, 2));
        d.takes(YES, bus(1, 900, 0, 0));
    }

    // ---- promise 3

    private static void wirePlaces() {
        Drawing d = threeSheets("3, places from -1,000,000,000 to 1,000,000,000");
        for (long no : NO_PLACES) {
            d.refuses(ARGUMENT, wire(0, no, 0, 10, 0));
            d.refuses(ARGUMENT, wire(0, 0, no, 10, 0));
            d.refuses(ARGUMENT, wire(0, 0, 0, no, 0));
            d.refuses(ARGUMENT, wire(0, 0, 0, 10, no));
        }
        d.takes(0, wire(0, -FAR, 0, 10, 0));
        d.takes(1, wire(0, FAR, 0, 10, 0));
        d.takes(2, wire(0, 0, -FAR, 10, 0));
        d.takes(3, wire(0, 0, FAR, 10, 0));
        d.takes(4, wire(0, 0, 0, -FAR, 0));
        d.takes(5, wire(0, 0, 0, FAR, 0));
        d.takes(6, wire(0, 0, 0, 10, -FAR));
        d.takes(7, wire(0, 0, 0, 10, FAR));
    }

    private static void wireOfOnePlace() {
        Drawing d = threeSheets("3, also when both ends are the same");
        d.refuses(ARGUMENT, wire(0, 0, 0, 0, 0));
        d.refuses(ARGUMENT, wire(0, 10, 0, 10, 0));
        d.refuses(ARGUMENT, wire(0, FAR, -FAR, FAR, -FAR));
        d.refuses(ARGUMENT, wire(0, FAR + 1, 0, FAR + 1, 0));
        d.takes(0, wire(0, 0, 0, 1, 0));
        d.takes(1, wire(0, 0, 0, 0, 1));
        d.takes(2, wire(0, FAR, FAR, FAR - 1, FAR));
        d.takes(3, wire(0, -FAR, -FAR, -FAR, 1 - FAR));
        d.takes(4, wire(0, 5, 6, 6, 5));
        d.takes(5, wire(0, 0, 0, 1, 0));
    }

    private static void wireOrder() {
        Drawing d = threeSheets("3, which reason is looked at first");
        for (int s : new int[] {-1, 2, 3}) {
            long due = s == 2 ? STATE : OUT;
            d.refuses(due, wire(s, 0, 0, 0, 0));
            d.refuses(due, wire(s, FAR + 1, 0, 0, 0));
            d.refuses(due, wire(s, 0, FAR + 1, 0, 0));
            d.refuses(due, wire(s, 0, 0, -FAR - 1, 0));
            d.refuses(due, wire(s, 0, 0, 0, -FAR - 1));
        }
    }

    private static void wiresFull() {
        Drawing d = threeSheets("3, NONE when there are 100, also dropped ones");
        for (int i = 0; i < 99; i++) {
            d.takes(i, wire(i % 2, i, 5, i, 6));
            if (i % 10 == 4) {
                d.takes(0, drop(i));
            }
        }
        // The last one that is taken changes nets, so that a refused one could be seen to forget that.
        d.takes(99, wire(1, 0, 0, 10, 0));
        d.refuses(NONE, wire(0, 0, 0, 10, 0));
        d.refuses(NONE, wire(1, 0, 0, 10, 0));
        d.takes(4, drop(99));
        d.refuses(NONE, wire(0, 0, 0, 10, 0));
        d.refuses(NONE, wire(1, 0, 0, 10, 0));
        d.refuses(OUT, drop(100));
        d.refuses(OUT, wire(3, 0, 0, 0, 0));
        d.refuses(STATE, wire(2, 0, 0, 0, 0));
        d.refuses(ARGUMENT, wire(1, 0, 0, 0, 0));
        d.refuses(ARGUMENT, wire(1, 0, 0, 0, FAR + 1));
        d.asks(6, nets());
    }

    // ---- promise 4

    /** Two wires that cross at 5, 5 and at no junction, with a pin each, on a sheet and its repeat. */
    private static Drawing crossing(String sentence) {
        return drawing(sentence, sheet(NONE, NONE), sheet(NONE, 0), sheet(NONE, NONE),
                wire(0, 0, 0, 10, 10), wire(0, 10, 0, 0, 10), pin(0, 0, 0, 1), pin(0, 10, 0, 1));
    }

    private static void junctionPlaces() {
        Drawing d = crossing("4, places from -1,000,000,000 to 1,000,000,000");
        for (long no : NO_PLACES) {
            d.refuses(ARGUMENT, junction(0, no, 5));
            d.refuses(ARGUMENT, junction(0, 5, no));
            d.refuses(OUT, junction(3, no, 5));
            d.refuses(STATE, junction(1, 5, no));
        }
        d.takes(YES, junction(0, -FAR, FAR));
        d.takes(YES, junction(0, FAR, -FAR));
        d.asks(4, nets());
    }

    private static void junctionIsThere() {
        Drawing d = crossing("4, false when there is one");
        d.takes(YES, junction(0, 5, 5));
        d.asks(2, nets());
        d.refuses(NO, junction(0, 5, 5));
        d.takes(YES, junction(0, 5, 4));
        d.takes(YES, junction(0, 4, 5));
        d.takes(YES, junction(2, 5, 5));
        d.refuses(NO, junction(2, 5, 5));
        d.tell(drop(0), drop(1));
        d.refuses(NO, junction(0, 5, 5));
        d.refuses(STATE, junction(1, 5, 5));
    }

    private static void junctionsFull() {
        Drawing d = crossing("4, false when there are 50 of all sheets");
        d.tell(wire(2, 0, 0, 10, 10), wire(2, 10, 0, 0, 10), pin(2, 0, 0, 1), pin(2, 10, 0, 1));
        for (int i = 0; i < 49; i++) {
            d.takes(YES, junction(i % 2 * 2, i, -1));
        }
        d.takes(YES, junction(2, 5, 5));
        d.asks(4, changed(0));
        d.refuses(NO, junction(0, 5, 5));
        d.refuses(NO, junction(2, 6, 6));
        d.refuses(NO, junction(0, 48, -1));
        d.asks(5, nets());
        d.refuses(OUT, junction(3, 5, 5));
        d.refuses(STATE, junction(1, 5, 5));
        d.refuses(ARGUMENT, junction(0, 5, FAR + 1));
        // Those on repeats are the same ones: they take up no room.
        Drawing e = crossing("4, 50 junctions on a sheet with a repeat");
        for (int i = 0; i < 49; i++) {
            e.takes(YES, junction(0, i, -1));
        }
        e.asks(4, nets());
        e.takes(YES, junction(0, 5, 5));
        e.asks(2, nets());
        e.refuses(NO, junction(0, 6, 6));
    }

    // ---- promise 5

    private static void labelPlacesAndNames() {
        Drawing d = threeSheets("5, places, and names 0 .. 999");
        for (long no : NO_PLACES) {
            d.refuses(ARGUMENT, label(0, no, 0, 1));
            d.refuses(ARGUMENT, label(0, 0, no, 1));
            d.refuses(STATE, label(2, 0, no, 1));
            d.refuses(OUT, label(3, no, 0, 1));
        }
        for (int no : NO_NAMES) {
            d.refuses(ARGUMENT, label(0, 0, 0, no));
            d.refuses(ARGUMENT, label(0, FAR + 1, 0, no));
            d.refuses(STATE, label(2, 0, 0, no));
            d.refuses(OUT, label(3, 0, 0, no));
        }
        int number = 0;
        for (int name : LAST_NAMES) {
            d.takes(number++, label(0, -FAR, FAR, name));
            d.takes(number++, label(1, FAR, -FAR, name));
        }
        d.takes(number, label(0, -FAR, FAR, 999));
    }

    private static void labelsFull() {
        Drawing d = threeSheets("5, NONE when there are 60");
        for (int i = 0; i < 59; i++) {
            d.takes(i, label(i % 2, i, 5, i));
        }
        d.takes(59, label(1, 0, 0, 999));
        d.asks(2, changed(0));
        d.refuses(NONE, label(0, 0, 0, 900));
        d.refuses(NONE, label(1, 0, 0, 900));
        d.refuses(NONE, label(0, 0, 0, 999));
        d.refuses(OUT, label(3, 0, 0, 1000));
        d.refuses(STATE, label(2, 0, 0, 1000));
        d.refuses(ARGUMENT, label(1, 0, 0, 1000));
        d.refuses(ARGUMENT, label(1, FAR + 1, 0, 0));
        d.refuses(OUT, port(1, 60, 0));
        d.takes(YES, port(1, 59, 0));
    }

    // ---- promise 6

    private static void pinPlacesAndParts() {
        Drawing d = threeSheets("6, places, and parts (any number)");
        for (long no : NO_PLACES) {
            d.refuses(ARGUMENT, pin(0, no, 0, 7));
            d.refuses(ARGUMENT, pin(0, 0, no, 7));
            d.refuses(STATE, pin(2, no, 0, 7));
            d.refuses(OUT, pin(3, 0, no, 7));
        }
        int number = 4;
        for (int part : new int[] {LEAST, GREATEST, -1, 0}) {
            d.takes(number++, pin(0, -FAR, FAR, part));
            d.takes(number++, pin(1, FAR, -FAR, part));
        }
    }

    private static void pinIsThere() {
        Drawing d = threeSheets("6, NONE when one of that part is at this place of the sheet");
        d.refuses(NONE, pin(0, 0, 0, 1));
        d.refuses(NONE, pin(1, 10, 0, 1));
        d.takes(4, pin(0, 0, 1, 1));
        d.takes(5, pin(0, 1, 0, 1));
        d.takes(6, pin(0, 0, 0, 2));
        d.takes(7, pin(0, 0, 0, LEAST));
        d.refuses(NONE, pin(0, 0, 0, LEAST));
        d.takes(8, pin(0, 0, 0, GREATEST));
        d.refuses(NONE, pin(0, 0, 0, GREATEST));
        d.takes(9, pin(0, 0, 0, -1));
        d.refuses(NONE, pin(0, 0, 0, -1));
        d.takes(10, pin(1, 0, 1, 1));
        d.refuses(STATE, pin(2, 0, 0, 1));
    }

    private static void pinsFull() {
        Drawing d = threeSheets("6, NONE when there are 60");
        for (int i = 4; i < 60; i++) {
            d.takes(i, pin(i % 2, i, 5, i));
        }
        d.asks(90, nets());
        d.refuses(NONE, pin(0, 0, 0, 2));
        d.refuses(NONE, pin(1, 77, 77, 1));
        d.refuses(NONE, pin(0, 0, 0, 1));
        d.refuses(OUT, pin(3, FAR + 1, 0, 1));
        d.refuses(STATE, pin(2, FAR + 1, 0, 1));
        d.refuses(ARGUMENT, pin(1, FAR + 1, 0, 1));
        d.refuses(OUT, netOf(60, 0));
        d.refuses(OUT, open(60));
        d.takes(YES, open(59));
        d.asks(90, nets());
    }

    // ---- promise 7

    /** Sheet 0 in none; 1 in 0, and its repeats 2 in 0 and 3 in none; labels 0 on 0, 1 and 2 on 1. */
    private static Drawing withLabels(String sentence) {
        return drawing(sentence, sheet(NONE, NONE), sheet(0, NONE), sheet(0, 1), sheet(NONE, 1),
                label(0, 0, 0, 20), label(1, 0, 0, 5), label(1, 10, 0, 6),
                pin(0, 0, 0, 1), pin(1, 0, 0, 1), pin(1, 10, 0, 1));
    }

    private static void portSheetsAndLabels() {
        Drawing d = withLabels("7, whether the sheet is there, and the label one of its things");
        for (int no : new int[] {-2, -1, 4, 16, LEAST, GREATEST}) {
            d.refuses(OUT, port(no, 1, 20));
            d.refuses(OUT, port(1, no == 4 ? 3 : no, 20));
        }
        d.refuses(OUT, port(1, 0, 20));
        d.refuses(OUT, port(2, 0, 20));
        d.refuses(OUT, port(0, 1, 20));
        d.refuses(OUT, port(3, 0, 20));
        d.refuses(OUT, port(1, 0, 1000));
        d.refuses(OUT, port(4, 1, 1000));
        d.takes(YES, port(1, 1, 20));
        d.takes(YES, port(2, 2, 20));
        d.asks(0, netOf(2, 1));
    }

    private static void portParents() {
        Drawing d = withLabels("7, when the sheet has no parent");
        d.refuses(STATE, port(0, 0, 20));
        d.refuses(STATE, port(3, 1, 20));
        d.refuses(STATE, port(0, 0, -1));
        d.refuses(STATE, port(3, 2, 1000));
        d.refuses(OUT, port(0, 2, 20));
        d.refuses(OUT, port(0, 3, 1000));
    }

    private static void portNames() {
        Drawing d = withLabels("7, when name is no name");
        for (int no : NO_NAMES) {
            d.refuses(ARGUMENT, port(1, 1, no));
            d.refuses(ARGUMENT, port(2, 1, no));
        }
        for (int name : LAST_NAMES) {
            d.takes(YES, port(1, 1, name));
            d.takes(YES, port(2, 1, name));
        }
    }

    private static void portIsTold() {
        Drawing d = withLabels("7, false when it is told already");
        d.takes(YES, port(1, 1, 20));
        d.refuses(NO, port(1, 1, 20));
        d.takes(YES, port(1, 1, 21));
        d.takes(YES, port(1, 2, 20));
        d.takes(YES, port(2, 1, 20));
        d.refuses(NO, port(2, 1, 20));
        d.refuses(NO, port(1, 2, 20));
        d.refuses(NO, port(1, 1, 20));
    }

    private static void portsFull() {
        Drawing d = withLabels("7, false when there are 30");
        for (int i = 0; i < 29; i++) {
            d.takes(YES, port(1 + i % 2, 1 + i / 2 % 2, 100 + i));
        }
        d.takes(YES, port(1, 1, 20));
        d.asks(0, changed(0));
        d.refuses(NO, port(1, 1, 20));
        d.refuses(NO, port(2, 2, 20));
        d.refuses(NO, port(1, 1, 100));
        d.refuses(OUT, port(4, 1, 20));
        d.refuses(OUT, port(1, 3, 20));
        d.refuses(STATE, port(3, 1, 20));
        d.refuses(ARGUMENT, port(1, 1, 1000));
        d.asks(6, nets());
    }

    // ---- promise 8

    private static void busNames() {
        Drawing d = withLabels("8, when a name is none");
        for (int no : NO_NAMES) {
            d.refuses(ARGUMENT, bus(1, no, 5, 6));
            d.refuses(ARGUMENT, bus(1, 950, no, 6));
            d.refuses(ARGUMENT, bus(1, 950, 5, no));
            for (int s = 2; s <= 4; s++) {
                long due = s == 4 ? OUT : STATE;
                d.refuses(due, bus(s, no, 5, 6));
                d.refuses(due, bus(s, 950, no, 6));
                d.refuses(due, bus(s, 950, 5, no));
            }
        }
        for (int name : LAST_NAMES) {
            d.takes(YES, bus(1, name, 5, 6));
            d.takes(YES, bus(1, 7, name, 6));
            d.takes(YES, bus(1, 7, 5, name));
        }
        d.takes(YES, bus(1, 0, 0, 999));
        d.takes(YES, bus(1, 999, 999, 0));
    }

    private static void busIsTold() {
        Drawing d = withLabels("8, false when just this one is told");
        d.takes(YES, bus(1, 7, 5, 6));
        d.refuses(NO, bus(1, 7, 5, 6));
        d.takes(YES, bus(0, 7, 5, 6));
        d.takes(YES, bus(1, 8, 5, 6));
        d.takes(YES, bus(1, 7, 4, 6));
        d.takes(YES, bus(1, 7, 5, 7));
        d.takes(YES, bus(1, 7, 6, 5));
        d.refuses(NO, bus(1, 7, 5, 6));
        d.refuses(NO, bus(1, 7, 6, 5));
        d.refuses(STATE, bus(2, 7, 5, 6));
        d.takes(YES, bus(1, 950, 5, 6));
        d.refuses(NO, bus(1, 950, 5, 6));
        d.takes(YES, bus(0, 950, 5, 6));
    }

    private static void busesFull() {
        Drawing d = withLabels("8, false when there are 16");
        d.tell(bus(1, 7, 5, 5));
        for (int i = 1; i < 15; i++) {
            d.takes(YES, bus(i % 2, 10 + i, 5, 6));
        }
        d.takes(YES, bus(1, 950, 5, 5));
        d.asks(1, changed(0));
        d.refuses(NO, bus(1, 7, 6, 6));
        d.refuses(NO, bus(1, 950, 5, 6));
        d.refuses(NO, bus(1, 7, 5, 5));
        d.refuses(OUT, bus(4, 7, 6, 6));
        d.refuses(STATE, bus(2, 7, 6, 6));
        d.refuses(ARGUMENT, bus(1, 7, 6, 1000));
        d.asks(5, nets());
    }

    // ---- promises 9 and 10

    /** 60 pins on one sheet, with 15 repeats of it. */
    private static Drawing allPins(String sentence) {
        Drawing d = drawing(sentence, sheet(NONE, NONE));
        for (int i = 0; i < 60; i++) {
            d.tell(pin(0, i, 0, 1));
        }
        for (int i = 1; i < 16; i++) {
            d.tell(sheet(NONE, 0));
        }
        return d;
    }

    private static void netsFromNoneToAll() {
        Drawing d = drawing("9, none, one, all", sheet(NONE, NONE));
        d.asks(0, nets());
        d.tell(label(0, 0, 0, 1), wire(0, 0, 0, 1, 0), junction(0, 0, 0), bus(0, 1, 1, 2), sheet(0, 0));
        d.asks(0, nets());
        d.tell(port(1, 0, 1));
        d.asks(0, nets());
        d.tell(pin(0, 9, 9, 1));
        d.asks(2, nets());
        Drawing e = allPins("9, all pins on all sheets");
        e.asks(960, nets());
        e.takes(0, wire(0, 0, 0, 0, 1));
        e.asks(960, nets());
        e.takes(1, wire(0, 0, 0, 59, 0));
        e.asks(16, nets());
        e.takes(0, label(0, 59, 0, 999));
        e.asks(1, nets());
        e.takes(945, drop(1));
        e.asks(945, nets());
    }

    private static void netOfPins() {
        Drawing d = threeSheets("10, when there is no such pin");
        for (int no : new int[] {-2, -1, 4, 59, 60, LEAST, GREATEST}) {
            d.refuses(OUT, netOf(no, 0));
            d.refuses(OUT, netOf(no, -1));
        }
        d.asks(0, netOf(0, 0));
        d.asks(4, netOf(3, 0));
        Drawing e = allPins("10, the last pin of all");
        e.asks(959, netOf(59, 15));
        e.refuses(OUT, netOf(60, 15));
        e.refuses(OUT, netOf(60, 0));
        e.refuses(OUT, netOf(59, 16));
    }

    private static void netOfCopies() {
        Drawing d = threeSheets("10, when there is no such copy");
        for (int no : new int[] {-2, -1, 2, 15, 16, LEAST, GREATEST}) {
            d.refuses(OUT, netOf(2, no));
            d.refuses(OUT, netOf(0, no == 2 ? 1 : no));
        }
        d.asks(0, netOf(0, 0));
        d.asks(3, netOf(2, 1));
        d.tell(sheet(2, 0));
        d.asks(1, netOf(0, 1));
        d.refuses(OUT, netOf(0, 2));
        d.refuses(OUT, netOf(2, 2));
    }

    // ---- promises 11 and 12

    private static void rankNames() {
        Drawing d = drawing("11, when it is no name");
        for (int no : NO_NAMES) {
            d.refuses(ARGUMENT, rank(no, 0));
            d.refuses(ARGUMENT, rank(no, 1));
            d.refuses(ARGUMENT, rank(no, 10));
        }
        for (int name : LAST_NAMES) {
            d.refuses(NO, rank(name, 0));
            d.takes(YES, rank(name, 1));
        }
    }

    private static void rankBounds() {
        Drawing d = drawing("11, when r is not -9 .. 9; whether it was another one",
                sheet(NONE, NONE), pin(0, 0, 0, 1), label(0, 0, 0, 5), label(0, 0, 0, 7));
        for (int no : new int[] {-10, 10, LEAST, GREATEST}) {
            d.refuses(ARGUMENT, rank(7, no));
            d.refuses(ARGUMENT, rank(1000, no));
        }
        d.refuses(NO, rank(7, 0));
        d.asks(5, name(0));
        d.takes(YES, rank(7, 9));
        d.asks(7, name(0));
        d.refuses(NO, rank(7, 9));
        d.refuses(ARGUMENT, rank(7, 10));
        d.takes(YES, rank(5, 9));
        d.asks(5, name(0));
        d.takes(YES, rank(5, -9));
        d.takes(YES, rank(7, -8));
        d.asks(7, name(0));
        d.takes(YES, rank(7, -9));
        d.asks(5, name(0));
        d.refuses(NO, rank(7, -9));
        d.refuses(ARGUMENT, rank(7, -10));
        d.takes(YES, rank(7, 0));
        d.asks(7, name(0));
        d.refuses(NO, rank(7, 0));
    }

    private static void nameOfNets() {
        Drawing d = threeSheets("12, when there is no such net");
        for (int no : new int[] {-2, -1, 6, 960, LEAST, GREATEST}) {
            d.refuses(OUT, name(no));
        }
        d.asks(-1, name(0));
        d.asks(-4, name(5));
        d.tell(wire(1, 0, 0, 10, 0));
        d.asks(-3, name(3));
        d.refuses(OUT, name(4));
        Drawing e = allPins("12, the last net of all");
        e.asks(-60, name(959));
        e.refuses(OUT, name(960));
        e.takes(0, label(0, 59, 0, 0));
        e.asks(0, name(959));
    }

    // ---- promises 13 and 14

    private static void dropWires() {
        Drawing d = threeSheets("13, when there is none such, or it was dropped");
        d.refuses(OUT, drop(0));
        d.tell(wire(0, 0, 0, 10, 0), wire(1, 0, 0, 10, 0));
        for (int no : new int[] {-2, -1, 2, 99, 100, LEAST, GREATEST}) {
            d.refuses(OUT, drop(no));
        }
        d.takes(2, drop(0));
        d.refuses(OUT, drop(0));
        d.takes(2, wire(0, 0, 0, 10, 0));
        d.refuses(OUT, drop(0));
        d.refuses(OUT, drop(3));
        d.takes(4, drop(1));
        d.refuses(OUT, drop(1));
        d.takes(2, drop(2));
        d.refuses(OUT, drop(2));
        Drawing e = drawing("13, the last wire of all", sheet(NONE, NONE));
        for (int i = 0; i < 100; i++) {
            e.tell(wire(0, i, 0, i, 1));
        }
        e.takes(0, drop(99));
        e.refuses(OUT, drop(99));
        e.refuses(OUT, drop(100));
        e.takes(0, drop(0));
        e.refuses(OUT, drop(0));
    }

    private static void dropAnswers() {
        Drawing d = drawing("13, how many nets are CHANGED: none, two, all", sheet(NONE, NONE),
                wire(0, 0, 5, 9, 5), wire(0, 0, 0, 9, 0), wire(0, 0, 0, 9, 0), wire(0, 20, 0, 29, 0),
                pin(0, 0, 0, 1), pin(0, 9, 0, 1), pin(0, 20, 0, 1));
        d.takes(0, drop(0));
        d.takes(0, drop(1));
        d.takes(0, drop(3));
        d.asks(NONE, changed(0));
        d.takes(2, drop(2));
        d.asks(0, changed(0));
        d.asks(1, changed(1));
        d.asks(NONE, changed(2));
        Drawing e = allPins("13, all nets changed");
        e.tell(wire(0, 0, 0, 59, 0));
        e.takes(960, drop(0));
        e.asks(0, changed(0));
        e.asks(959, changed(959));
        e.asks(NONE, changed(960));
    }

    private static void openPins() {
        Drawing d = threeSheets("14, when there is none such; OPEN, or not any more");
        for (int no : new int[] {-2, -1, 4, 60, LEAST, GREATEST}) {
            d.refuses(OUT, open(no));
        }
        d.tell(wire(0, 0, 0, 10, 0), wire(1, 0, 0, 10, 0));
        d.asks(NONE, told(0));
        d.takes(YES, open(3));
        d.takes(YES, open(0));
        d.asks(200_000_000, told(0));
        d.asks(200_000_003, told(1));
        d.refuses(OUT, open(4));
        d.takes(NO, open(0));
        d.asks(200_000_003, told(0));
        d.takes(NO, open(3));
        d.asks(NONE, told(0));
        d.takes(YES, open(3));
        d.asks(200_000_003, told(0));
    }

    // ---- promise 15

    private static void toldBounds() {
        Drawing d = drawing("15, NONE, when there are not so many (or k is below 0)", sheet(NONE, NONE));
        for (int no : new int[] {LEAST, -2, -1, 0, 1, GREATEST}) {
            d.refuses(NONE, told(no));
        }
        d.tell(label(0, 0, 0, 5));
        d.asks(100_000_000, told(0));
        d.tell(label(0, 0, 0, 0), pin(0, 0, 0, 1), pin(0, 0, 0, 2), rank(5, 1), open(1));
        d.asks(0, told(0));
        d.asks(200_000_001, told(1));
        for (int no : new int[] {LEAST, -2, -1, 2, 3, GREATEST}) {
            d.refuses(NONE, told(no));
        }
    }

    // ---- promise 16

    private static void sameAlways() {
        Drawing d = drawing("16, always");
        Call[] calls = {sheet(NONE, NONE), sheet(0, NONE), sheet(0, 1), pin(0, 0, 0, 1), pin(1, 0, 0, 1),
            pin(1, 9, 0, 1), wire(1, 0, 0, 5, 0), wire(1, 5, -5, 9, 0), wire(1, 5, -9, 5, 9), junction(1, 5, 0),
            label(0, 0, 0, 20), label(1, 9, 0, 3), label(1, 5, 9, 950), port(1, 1, 20), port(2, 1, 21),
            bus(0, 7, 20, 21), bus(0, 7, 22, 20), bus(1, 901, 3, 4), bus(0, 901, 22, 20), sheet(1, 1),
            rank(20, 9), open(0), drop(1), drop(0), drop(2), wire(1, 0, 0, 9, 0), sheet(0, 0), drop(3)};
        d.asks(YES, same());
        for (Call call : calls) {
            d.tell(call);
            d.refuses(YES, same());
        }
    }

    // ---- promise 17

    private static void changedBounds() {
        Drawing d = threeSheets("17, NONE when there are not so many (or k is below 0)");
        d.asks(4, changed(0));
        d.asks(5, changed(1));
        for (int no : new int[] {LEAST, -2, -1, 2, 3, GREATEST}) {
            d.refuses(NONE, changed(no));
        }
        d.tell(junction(0, 0, 0));
        for (int no : new int[] {LEAST, -1, 0, 1, GREATEST}) {
            d.refuses(NONE, changed(no));
        }
        Drawing e = allPins("17, all nets changed at once");
        e.tell(wire(0, 0, 0, 59, 0));
        e.asks(15, changed(15));
        e.asks(NONE, changed(16));
        e.tell(drop(0));
        e.asks(959, changed(959));
        e.asks(NONE, changed(960));
        e.asks(NONE, changed(-1));
    }

    private static void changedStays() {
        Drawing d = threeSheets("17, the latest call that changed something told");
        d.tell(wire(1, 0, 0, 10, 0));
        Call[] others = {rank(5, 3), rank(5, 3), open(0), open(0), nets(), netOf(0, 0), name(0), told(0), same(),
            changed(0), changed(9), sheet(9, NONE), sheet(NONE, 2), wire(2, 0, 0, 1, 0), wire(0, 0, 0, 0, 0),
            junction(0, 0, FAR + 1), label(0, 0, 0, 1000), pin(0, 0, 0, 1), port(1, 0, 0), bus(0, 0, 0, -1),
            drop(1), drop(-1), open(60), name(99), netOf(0, 1), rank(1000, 0)};
        for (Call call : others) {
            d.asksAny(call);
            d.asks(2, changed(0));
            d.asks(3, changed(1));
            d.asks(NONE, changed(2));
        }
        d.takes(YES, junction(0, 0, 0));
        d.asks(NONE, changed(0));
        d.refuses(NO, junction(0, 0, 0));
        d.takes(4, drop(0));
        d.asks(2, changed(0));
        d.refuses(OUT, drop(0));
        d.asks(5, changed(3));
        d.tell(sheet(NONE, NONE));
        d.asks(NONE, changed(0));
    }

    // ---- what it is

    private static void lastCall() {
        Drawing d = allPins("at most 512 calls: the last one of a full object");
        for (int i = 0; i < 60; i++) {
            d.tell(label(0, i, 0, i));
        }
        for (int i = 0; i < 100; i++) {
            d.tell(wire(0, i % 59, 0, i % 59, 1 + i));
        }
        for (int i = 0; i < 50; i++) {
            d.tell(junction(0, i, 0));
        }
        for (int i = 0; i < 16; i++) {
            d.tell(bus(0, 950, i, 999));
        }
        for (int i = 0; i < 60; i++) {
            d.tell(open(i));
        }
        d.asks(1, nets());
        while (d.callCount() < 511) {
            d.asks(YES, same());
        }
        d.asks(200_000_059, told(59 + 59));
        check.due(512, d.callCount(), "calls");
    }
}
