import java.util.NoSuchElementException;

/**
 * Each exception that the document names: calls that are refused with it, at the edge of what is allowed
 * and far beyond, change nothing; and where several exceptions apply, the one listed first is thrown.
 */
public final class RefusedTest {
    private static final Class<IndexOutOfBoundsException> NO_SUCH = IndexOutOfBoundsException.class;
    private static final Class<IllegalArgumentException> ILLEGAL = IllegalArgumentException.class;
    private static final Class<IllegalStateException> STATE = IllegalStateException.class;
    private static final Class<UnsupportedOperationException> UNSUPPORTED = UnsupportedOperationException.class;
    private static final Class<NoSuchElementException> NONE = NoSuchElementException.class;
    private static final Class<ArithmeticException> ARITHMETIC = ArithmeticException.class;
    private static final int LEAST = Integer.MIN_VALUE;
    private static final int MOST = Integer.MAX_VALUE;
    private static final Check CHECK = new Check("RefusedTest");
    private static final Twins TWINS = new Twins(CHECK);

    private static final Twins.Act EMPTY = board -> { };
    private static final Twins.Act BUSY = RefusedTest::makeBusy;
    private static final Twins.Act FULL_SHEET = RefusedTest::fillSheet;
    private static final Twins.Act FULL_OF_ITEMS = RefusedTest::fillItems;
    private static final Twins.Act ONE_LEFT = RefusedTest::leaveOneItem;
    private static final Twins.Act FULL_OF_AREAS = RefusedTest::fillAreas;
    private static final Twins.Act TEN_HOLES = RefusedTest::makeTenHoles;
    /** Neither pins nor areas, items or parts have these numbers in the busy scene. */
    private static final int[] NOT_THERE = {-1, 9, 72, 150, LEAST, MOST};
    /** Columns and rows, one of which is not on the board. */
    private static final int[][] OFF_BOARD = {
        {-1, 3}, {20, 3}, {3, -1}, {3, 14}, {LEAST, 3}, {MOST, 3}, {3, LEAST}, {3, MOST}, {20, 14}};

    public static void main(String[] args) {
        busySceneIsBusy();
        noSuchPin();
        noSuchOtherPin();
        noSuchPart();
        noSuchItem();
        noSuchAreaOrCell();
        addPart();
        kindsAndNames();
        wiresAndSwaps();
        gapsOfPins();
        placeArguments();
        placeRoom();
        track();
        trackTooNear();
        via();
        setLocked();
        pour();
        route();
        routeAll();
        looks();
        emptySheet();
        firstOfTheSheet();
        firstOfPlace();
        firstOfItems();
        firstOfPour();
        firstOfRoute();
        firstOfLooks();
        System.exit(CHECK.end());
    }

    /** Pins 0 and 1, 2 to 4 going through, 5, 6 that is not placed, 7 and 8, in the parts 0 to 4. */
    private static void makeBusy(Coppertrace board) {
        board.addPart(0, 2, false);
        board.addPart(1, 3, true);
        board.addPart(2, 1, false);
        board.addPart(0, 1, true);
        board.addPart(0, 2, false);
        board.setWire(0, 2, true);
        board.setWire(0, 6, true);
        board.setName(1, 'A');
        board.setName(5, 'A');
        board.setName(3, 'q');
        board.setKind(0, 'o');
        board.setKind(2, 'i');
        board.setKind(5, 's');
        board.setGap(4, 1);
        board.place(0, 2, 2, 0);
        board.place(1, 10, 2, 1);
        board.place(2, 5, 9, 0);
        board.place(4, 15, 9, 0);
        board.track(7, 0, 6, 0, 14, true);
        board.track(7, 1, 6, 0, 14, true);
        board.setLocked(1, true);
        board.via(7, 15, 9);
        board.erase(2);
        board.routeAll(2);
        board.setWire(4, 7, true);
        board.pour(2, 1, 8, 0, 12, 5);
        board.pour(5, 0, 0, 8, 5, 13);
    }

    private static void fillSheet(Coppertrace board) {
        for (int part = 0; part < 12; part++) {
            board.addPart(part % 3, part % 6 + 1, part % 2 == 0);
        }
    }

    /** The pins 0 and 1 are one net, at (2, 5) and (6, 5); the pin 2 has all the items. */
    private static void fillItems(Coppertrace board) {
        leaveOneItem(board);
        board.via(2, 15, 1);
    }

    private static void leaveOneItem(Coppertrace board) {
        for (int part = 0; part < 3; part++) {
            board.addPart(0, 1, false);
        }
        board.setWire(0, 1, true);
        board.place(0, 2, 5, 0);
        board.place(1, 6, 5, 0);
        Boards.useUp(board, 2, 15, 1, 1);
    }

    private static void fillAreas(Coppertrace board) {
        board.addPart(0, 2, true);
        board.place(0, 5, 5, 0);
        for (int area = 0; area < 4; area++) {
            board.pour(area % 2, area / 2, 0, 0, 19, 13);
        }
    }

    /** Six pads that go through, and four vias. */
    private static void makeTenHoles(Coppertrace board) {
        board.addPart(0, 6, true);
        board.place(0, 3, 3, 0);
        for (int column = 0; column < 4; column++) {
            board.via(0, column, 10);
        }
    }

    private static void busySceneIsBusy() {
        Coppertrace board = new Coppertrace();
        makeBusy(board);
        CHECK.same("items were ripped", board.ripped() > 0, true);
        CHECK.same("items are there", board.items() > 2, true);
        CHECK.same("a price has grown", board.price(26), 20);
        CHECK.same("the areas pour", board.poured(0) > 0 && board.poured(1) > 0, true);
        CHECK.same("two nets of three are whole", board.joinedShare(), 2f / 3f);
        CHECK.same("an item is locked", board.setLocked(1, true), true);
        CHECK.same("an item is gone", board.kindOf(2), '-');
    }

    private static void noSuchPin() {
        for (int pin : NOT_THERE) {
            refused("setKind of pin " + pin, BUSY, NO_SUCH, board -> board.setKind(pin, 'i'));
            refused("setWire from pin " + pin, BUSY, NO_SUCH, board -> board.setWire(pin, 0, true));
            refused("setName of pin " + pin, BUSY, NO_SUCH, board -> board.setName(pin, 'a'));
            refused("netOf pin " + pin, BUSY, NO_SUCH, board -> board.netOf(pin));
            refused("netState of pin " + pin, BUSY, NO_SUCH, board -> board.netState(pin));
            refused("swap of pin " + pin, BUSY, NO_SUCH, board -> board.swap(pin, 0));
            refused("setGap of pin " + pin, BUSY, NO_SUCH, board -> board.setGap(pin, 2));
            refused("track of pin " + pin, BUSY, NO_SUCH, board -> board.track(pin, 0, 17, 0, 3, true));
            refused("via of pin " + pin, BUSY, NO_SUCH, board -> board.via(pin, 17, 0));
            refused("pour of pin " + pin, BUSY, NO_SUCH, board -> board.pour(pin, 0, 0, 0, 19, 13));
            refused("route from pin " + pin, BUSY, NO_SUCH, board -> board.route(pin, 0));
            refused("areJoined, pin " + pin, BUSY, NO_SUCH, board -> board.areJoined(pin, 0));
            refused("areJoinedByPaint, pin " + pin, BUSY, NO_SUCH, board -> board.areJoinedByPaint(pin, 0));
            refused("opens of pin " + pin, BUSY, NO_SUCH, board -> board.opens(pin));
            refused("path from pin " + pin, BUSY, NO_SUCH, board -> board.path(pin, 0));
        }
    }

    private static void noSuchOtherPin() {
        for (int pin : NOT_THERE) {
            refused("setWire to pin " + pin, BUSY, NO_SUCH, board -> board.setWire(8, pin, true));
            refused("swap with pin " + pin, BUSY, NO_SUCH, board -> board.swap(8, pin));
            refused("route to pin " + pin, BUSY, NO_SUCH, board -> board.route(8, pin));
            refused("areJoined, other " + pin, BUSY, NO_SUCH, board -> board.areJoined(8, pin));
            refused("areJoinedByPaint, other " + pin, BUSY, NO_SUCH, board -> board.areJoinedByPaint(8, pin));
            refused("path to pin " + pin, BUSY, NO_SUCH, board -> board.path(8, pin));
        }
    }

    private static void noSuchPart() {
        for (int part : new int[] {-1, 5, 12, LEAST, MOST}) {
            refused("place of part " + part, BUSY, NO_SUCH, board -> board.place(part, 17, 0, 0));
            refused("lift of part " + part, BUSY, NO_SUCH, board -> board.lift(part));
        }
        for (int part : new int[] {-1, 12}) {
            refused("place of part " + part + " of 12", FULL_SHEET, NO_SUCH, board -> board.place(part, 17, 0, 0));
            refused("lift of part " + part + " of 12", FULL_SHEET, NO_SUCH, board -> board.lift(part));
        }
    }

    private static void noSuchItem() {
        Coppertrace made = new Coppertrace();
        makeBusy(made);
        int next = made.via(0, 19, 13);
        for (int item : new int[] {-1, next, 149, 150, LEAST, MOST}) {
            refused("erase of item " + item, BUSY, NO_SUCH, board -> board.erase(item));
            refused("setLocked of item " + item, BUSY, NO_SUCH, board -> board.setLocked(item, true));
            refused("kindOf item " + item, BUSY, NO_SUCH, board -> board.kindOf(item));
            refused("cellOf item " + item, BUSY, NO_SUCH, board -> board.cellOf(item, 0));
        }
        for (int item : new int[] {-1, 150}) {
            refused("erase of item " + item + " of 150", FULL_OF_ITEMS, NO_SUCH, board -> board.erase(item));
            refused("setLocked of item " + item + " of 150", FULL_OF_ITEMS, NO_SUCH,
                    board -> board.setLocked(item, true));
            refused("kindOf item " + item + " of 150", FULL_OF_ITEMS, NO_SUCH, board -> board.kindOf(item));
            refused("cellOf item " + item + " of 150", FULL_OF_ITEMS, NO_SUCH, board -> board.cellOf(item, 0));
        }
    }

    private static void noSuchAreaOrCell() {
        for (int area : new int[] {-1, 2, 3, 4, LEAST, MOST}) {
            refused("poured of area " + area, BUSY, NO_SUCH, board -> board.poured(area));
            refused("islands of area " + area, BUSY, NO_SUCH, board -> board.islands(area));
        }
        for (int area : new int[] {-1, 4}) {
            refused("poured of area " + area + " of 4", FULL_OF_AREAS, NO_SUCH, board -> board.poured(area));
            refused("islands of area " + area + " of 4", FULL_OF_AREAS, NO_SUCH, board -> board.islands(area));
        }
        for (int cell : new int[] {-1, 560, LEAST, MOST}) {
            refused("price of cell " + cell, BUSY, NO_SUCH, board -> board.price(cell));
            refused("netAt cell " + cell, BUSY, NO_SUCH, board -> board.netAt(cell));
        }
    }

    private static void addPart() {
        for (int page : new int[] {-1, 3, LEAST, MOST}) {
            refused("addPart on page " + page, BUSY, ILLEGAL, board -> board.addPart(page, 1, true));
        }
        for (int pins : new int[] {0, 7, -1, LEAST, MOST}) {
            refused("addPart with pins " + pins, BUSY, ILLEGAL, board -> board.addPart(0, pins, true));
        }
        refused("a thirteenth part", FULL_SHEET, STATE, board -> board.addPart(0, 1, false));
    }

    private static void kindsAndNames() {
        for (char kind : new char[] {'h', 'j', 'n', 'q', 'r', 't', 'I', 'O', 'P', 'S', '-', ' ', 0, 65535}) {
            refused("kind " + (int) kind, BUSY, ILLEGAL, board -> board.setKind(0, kind));
        }
        for (char name : new char[] {'`', '{', '@', '[', ',', '.', '0', '9', '_', ' ', 0, 127, 228, 65535}) {
            refused("name " + (int) name, BUSY, ILLEGAL, board -> board.setName(3, name));
        }
    }

    private static void wiresAndSwaps() {
        for (int pin : new int[] {0, 2, 8}) {
            refused("wire from pin " + pin + " to itself", BUSY, ILLEGAL, board -> board.setWire(pin, pin, true));
            refused("no wire from pin " + pin + " to itself", BUSY, ILLEGAL, board -> board.setWire(pin, pin, false));
            refused("swap of pin " + pin + " with itself", BUSY, ILLEGAL, board -> board.swap(pin, pin));
        }
        refused("swap of pins of two parts", BUSY, ILLEGAL, board -> board.swap(1, 2));
        refused("swap of pins of two parts, the other way round", BUSY, ILLEGAL, board -> board.swap(2, 1));
        refused("swap of pins of one net and two parts", BUSY, ILLEGAL, board -> board.swap(0, 2));
    }

    private static void gapsOfPins() {
        for (int gap : new int[] {-1, 3, LEAST, MOST}) {
            refused("gap " + gap, BUSY, ILLEGAL, board -> board.setGap(4, gap));
        }
    }

    private static void placeArguments() {
        for (int[] at : OFF_BOARD) {
            refused("place at " + at[0] + ", " + at[1], BUSY, ILLEGAL, board -> board.place(3, at[0], at[1], 0));
        }
        for (int turn : new int[] {-1, 4, LEAST, MOST}) {
            refused("place with turn " + turn, BUSY, ILLEGAL, board -> board.place(3, 17, 3, turn));
        }
    }

    private static void placeRoom() {
        refused("the second pad off the board, turn 0", BUSY, UNSUPPORTED, board -> board.place(0, 19, 0, 0));
        refused("the second pad off the board, turn 1", BUSY, UNSUPPORTED, board -> board.place(0, 19, 13, 1));
        refused("the second pad off the board, turn 2", BUSY, UNSUPPORTED, board -> board.place(0, 0, 13, 2));
        refused("the second pad off the board, turn 3", BUSY, UNSUPPORTED, board -> board.place(0, 19, 0, 3));
        refused("on a pad of another part", BUSY, UNSUPPORTED, board -> board.place(3, 15, 9, 0));
        refused("next to a pad of another part", BUSY, UNSUPPORTED, board -> board.place(3, 14, 9, 0));
        refused("slantwise next to a pad of another part", BUSY, UNSUPPORTED, board -> board.place(3, 14, 8, 0));
        refused("the last pad next to a pad of another part", BUSY, UNSUPPORTED, board -> board.place(1, 12, 9, 0));
        refused("too near to an item of another net", BUSY, UNSUPPORTED, board -> board.place(3, 6, 13, 0));
    }

    private static void track() {
        for (int[] at : OFF_BOARD) {
            refused("track from " + at[0] + ", " + at[1], BUSY, ILLEGAL,
                    board -> board.track(8, 0, at[0], at[1], 2, true));
            refused("track to the right from " + at[0] + ", " + at[1], BUSY, ILLEGAL,
                    board -> board.track(8, 1, at[0], at[1], 2, false));
        }
        for (int layer : new int[] {-1, 2, LEAST, MOST}) {
            refused("track in layer " + layer, BUSY, ILLEGAL, board -> board.track(8, layer, 17, 3, 2, true));
        }
        for (int length : new int[] {1, 0, -1, 21, LEAST, MOST}) {
            refused("track of length " + length, BUSY, ILLEGAL, board -> board.track(8, 0, 0, 0, length, false));
            refused("track up of length " + length, BUSY, ILLEGAL, board -> board.track(8, 0, 0, 0, length, true));
        }
        refused("track beyond the column 19", BUSY, ILLEGAL, board -> board.track(8, 0, 18, 12, 3, false));
        refused("track beyond the row 13", BUSY, ILLEGAL, board -> board.track(8, 0, 18, 12, 3, true));
        refused("track of 20 from the column 1", BUSY, ILLEGAL, board -> board.track(8, 0, 1, 13, 20, false));
        refused("track of 15 up", BUSY, ILLEGAL, board -> board.track(8, 1, 19, 0, 15, true));
        refused("track, 150 made", FULL_OF_ITEMS, STATE, board -> board.track(2, 0, 10, 10, 2, true));
    }

    private static void trackTooNear() {
        refused("track over a pad of another net", BUSY, UNSUPPORTED, board -> board.track(0, 0, 16, 9, 2, false));
        refused("track next to a pad with the gap 1", BUSY, UNSUPPORTED, board -> board.track(8, 1, 11, 5, 3, false));
        refused("track over an item of another net", BUSY, UNSUPPORTED, board -> board.track(0, 1, 5, 10, 2, false));
    }

    private static void via() {
        for (int[] at : OFF_BOARD) {
            refused("via at " + at[0] + ", " + at[1], BUSY, ILLEGAL, board -> board.via(8, at[0], at[1]));
        }
        refused("via, 150 made", FULL_OF_ITEMS, STATE, board -> board.via(2, 10, 10));
        refused("via in a pad of another net", BUSY, UNSUPPORTED, board -> board.via(0, 16, 9));
        refused("via over a track of the layer 1", BUSY, UNSUPPORTED, board -> board.via(0, 6, 12));
        refused("via next to a pad with the gap 1", BUSY, UNSUPPORTED, board -> board.via(8, 11, 5));
    }

    private static void setLocked() {
        refused("setLocked of what was erased", BUSY, STATE, board -> board.setLocked(2, true));
        refused("setLocked of what was ripped", BUSY, STATE, board -> board.setLocked(0, false));
    }

    private static void pour() {
        for (int[] at : OFF_BOARD) {
            refused("pour from " + at[0] + ", " + at[1], BUSY, ILLEGAL,
                    board -> board.pour(0, 0, at[0], at[1], 19, 13));
            refused("pour to " + at[0] + ", " + at[1], BUSY, ILLEGAL, board -> board.pour(0, 0, 0, 0, at[0], at[1]));
            refused("pour at " + at[0] + ", " + at[1], BUSY, ILLEGAL,
                    board -> board.pour(0, 0, at[0], at[1], at[0], at[1]));
        }
        for (int layer : new int[] {-1, 2, LEAST, MOST}) {
            refused("pour in layer " + layer, BUSY, ILLEGAL, board -> board.pour(0, layer, 0, 0, 19, 13));
        }
        refused("pour with columns the wrong way round", BUSY, ILLEGAL, board -> board.pour(0, 0, 4, 0, 3, 13));
        refused("pour with rows the wrong way round", BUSY, ILLEGAL, board -> board.pour(0, 0, 0, 4, 19, 3));
        refused("a fifth area", FULL_OF_AREAS, STATE, board -> board.pour(0, 0, 0, 0, 19, 13));
    }

    private static void route() {
        refused("route between two nets", BUSY, ILLEGAL, board -> board.route(7, 8));
        refused("route to a pad that is not placed", BUSY, ILLEGAL, board -> board.route(0, 6));
        refused("route from a pad that is not placed", BUSY, ILLEGAL, board -> board.route(6, 0));
        refused("route of a pad that is not placed to itself", BUSY, ILLEGAL, board -> board.route(6, 6));
        refused("route of what is joined", BUSY, UNSUPPORTED, board -> board.route(0, 2));
        refused("route of a pad to itself", BUSY, UNSUPPORTED, board -> board.route(7, 7));
        refused("route without a way", RefusedTest::makeWalls, NONE, board -> board.route(0, 1));
        refused("route of one item, 150 made", FULL_OF_ITEMS, STATE, board -> board.route(0, 1));
        Twins.Act bent = board -> {
            leaveOneItem(board);
            board.place(1, 6, 7, 0);
        };
        refused("route of two items, 149 made", bent, STATE, board -> board.route(0, 1));
        Coppertrace straight = new Coppertrace();
        leaveOneItem(straight);
        CHECK.same("route of one item, 149 made", straight.route(0, 1), 8);
    }

    /** Walls in both layers between the pins 0 and 1. */
    private static void makeWalls(Coppertrace board) {
        for (int part = 0; part < 3; part++) {
            board.addPart(0, 1, true);
        }
        board.setWire(0, 1, true);
        board.place(0, 2, 5, 0);
        board.place(1, 6, 5, 0);
        board.track(2, 0, 4, 0, 14, true);
        board.track(2, 1, 4, 0, 14, true);
    }

    private static void routeAll() {
        for (int rounds : new int[] {0, 7, -1, LEAST, MOST}) {
            refused("rounds " + rounds, BUSY, ILLEGAL, board -> board.routeAll(rounds));
            refused("rounds " + rounds + " with walls", RefusedTest::makeWalls, ILLEGAL,
                    board -> board.routeAll(rounds));
        }
    }

    private static void looks() {
        for (int index : new int[] {-1, 14, 20, LEAST, MOST}) {
            refused("cell " + index + " of a track of 14", BUSY, NONE, board -> board.cellOf(1, index));
        }
        refused("a third cell of a via", TEN_HOLES, NONE, board -> board.cellOf(0, 2));
        refused("a cell of what was erased", BUSY, NONE, board -> board.cellOf(2, 0));
        refused("a cell of what was ripped", BUSY, NONE, board -> board.cellOf(0, 0));
        refused("netAt a cell that has none", BUSY, NONE, board -> board.netAt(279));
        refused("path of pads that are not joined", BUSY, NONE, board -> board.path(7, 8));
        refused("path to a pad that is not placed", BUSY, NONE, board -> board.path(0, 6));
        refused("path from a pad that is not placed", BUSY, NONE, board -> board.path(6, 0));
        refused("path of a pad that is not placed to itself", BUSY, NONE, board -> board.path(6, 6));
        Twins.Act ring = board -> {
            board.addPart(0, 2, true);
            board.setWire(0, 1, true);
            board.place(0, 3, 3, 0);
            board.track(0, 0, 3, 3, 2, false);
            board.track(0, 1, 3, 3, 2, false);
        };
        refused("two ways", ring, UNSUPPORTED, board -> board.path(0, 1));
        refused("ten holes", TEN_HOLES, UNSUPPORTED, board -> board.drillWay());
        refused("no net of two pins", TEN_HOLES, ARITHMETIC, board -> board.joinedShare());
    }

    private static void emptySheet() {
        refused("no pin 0", EMPTY, NO_SUCH, board -> board.netOf(0));
        refused("no part 0", EMPTY, NO_SUCH, board -> board.place(0, 0, 0, 0));
        refused("no part to lift", EMPTY, NO_SUCH, board -> board.lift(0));
        refused("no item 0", EMPTY, NO_SUCH, board -> board.kindOf(0));
        refused("no area 0", EMPTY, NO_SUCH, board -> board.islands(0));
        refused("no copper in the first cell", EMPTY, NONE, board -> board.netAt(0));
        refused("no copper in the last cell", EMPTY, NONE, board -> board.netAt(559));
        refused("no nets to share", EMPTY, ARITHMETIC, board -> board.joinedShare());
        refused("no nets for a mean", EMPTY, ARITHMETIC, board -> board.meanPins());
    }

    private static void firstOfTheSheet() {
        refused("addPart: range, then 12 parts", FULL_SHEET, ILLEGAL, board -> board.addPart(3, 1, true));
        refused("addPart: pins, then 12 parts", FULL_SHEET, ILLEGAL, board -> board.addPart(0, 7, true));
        refused("setKind: pin, then kind", BUSY, NO_SUCH, board -> board.setKind(9, 'x'));
        refused("setWire: pin, then the same", BUSY, NO_SUCH, board -> board.setWire(9, 9, true));
        refused("setName: pin, then name", BUSY, NO_SUCH, board -> board.setName(9, '!'));
        refused("swap: pin, then the same", BUSY, NO_SUCH, board -> board.swap(-1, -1));
        refused("setGap: pin, then range", BUSY, NO_SUCH, board -> board.setGap(9, 3));
    }

    private static void firstOfPlace() {
        refused("place: part, then column", BUSY, NO_SUCH, board -> board.place(5, 20, 0, 0));
        refused("place: part, then turn", BUSY, NO_SUCH, board -> board.place(-1, 0, 0, 4));
        refused("place: turn, then room", BUSY, ILLEGAL, board -> board.place(3, 15, 9, 4));
        refused("place: row, then pads off the board", BUSY, ILLEGAL, board -> board.place(0, 19, 14, 0));
        refused("place: column, then pads on the board by a turn", BUSY, ILLEGAL, board -> board.place(0, 20, 0, 2));
    }

    private static void firstOfItems() {
        refused("track: pin, then layer", BUSY, NO_SUCH, board -> board.track(9, 2, 0, 0, 2, true));
        refused("track: pin, then leaving", BUSY, NO_SUCH, board -> board.track(9, 0, 19, 13, 2, true));
        refused("track: pin, then 150 made", FULL_OF_ITEMS, NO_SUCH, board -> board.track(3, 0, 10, 10, 2, true));
        refused("track: leaving, then 150 made", FULL_OF_ITEMS, ILLEGAL, board -> board.track(2, 0, 19, 0, 2, false));
        refused("track: length, then too near", BUSY, ILLEGAL, board -> board.track(0, 0, 15, 9, 1, true));
        refused("track: leaving, then too near", BUSY, ILLEGAL, board -> board.track(0, 0, 15, 9, 6, false));
        refused("track: 150 made, then too near", FULL_OF_ITEMS, STATE, board -> board.track(2, 0, 2, 5, 2, true));
        refused("via: pin, then row", BUSY, NO_SUCH, board -> board.via(9, 0, 14));
        refused("via: pin, then 150 made", FULL_OF_ITEMS, NO_SUCH, board -> board.via(-1, 10, 10));
        refused("via: row, then 150 made", FULL_OF_ITEMS, ILLEGAL, board -> board.via(2, 10, 14));
        refused("via: 150 made, then too near", FULL_OF_ITEMS, STATE, board -> board.via(2, 2, 5));
        refused("all four: pin", FULL_OF_ITEMS, NO_SUCH, board -> board.via(3, 20, 5));
    }

    private static void firstOfPour() {
        refused("pour: pin, then layer", BUSY, NO_SUCH, board -> board.pour(9, 2, 0, 0, 1, 1));
        refused("pour: pin, then columns", BUSY, NO_SUCH, board -> board.pour(-1, 0, 3, 0, 2, 1));
        refused("pour: pin, then 4 areas", FULL_OF_AREAS, NO_SUCH, board -> board.pour(2, 0, 0, 0, 1, 1));
        refused("pour: columns, then 4 areas", FULL_OF_AREAS, ILLEGAL, board -> board.pour(0, 0, 3, 0, 2, 1));
        refused("pour: layer, then 4 areas", FULL_OF_AREAS, ILLEGAL, board -> board.pour(0, 2, 0, 0, 1, 1));
        refused("pour: all three", FULL_OF_AREAS, NO_SUCH, board -> board.pour(2, 2, 3, 0, 2, 1));
    }

    private static void firstOfRoute() {
        refused("route: pin, then not placed", BUSY, NO_SUCH, board -> board.route(6, 9));
        refused("route: two nets, then 150 made", FULL_OF_ITEMS, ILLEGAL, board -> board.route(0, 2));
        refused("route: not placed, then 150 made", FULL_OF_ITEMS, ILLEGAL, board -> board.route(2, 2));
        Twins.Act shorted = board -> {
            makeBusy(board);
            board.setWire(0, 2, false);
        };
        refused("route: two nets, then joined already", shorted, ILLEGAL, board -> board.route(0, 2));
        Twins.Act apart = board -> {
            makeWalls(board);
            board.setWire(0, 1, false);
        };
        refused("route: two nets, then no way", apart, ILLEGAL, board -> board.route(0, 1));
        Twins.Act joined = board -> {
            leaveOneItem(board);
            board.route(0, 1);
        };
        refused("route: joined, though 150 are made", joined, UNSUPPORTED, board -> board.route(1, 0));
        refused("route: no way, though 150 are made", RefusedTest::fillAndCloseEnd, NONE, board -> board.route(0, 1));
    }

    /** A pad of another net, whose gap is grown behind it, is too near to the end. */
    private static void fillAndCloseEnd(Coppertrace board) {
        fillItems(board);
        board.place(2, 8, 5, 0);
        board.setGap(2, 2);
    }

    private static void firstOfLooks() {
        refused("cellOf: item, then index", BUSY, NO_SUCH, board -> board.cellOf(-1, -1));
        refused("path: pin, then not placed", BUSY, NO_SUCH, board -> board.path(6, -1));
        refused("path: not placed, then two ways of others", BUSY, NONE, board -> board.path(6, 0));
    }

    private static void refused(String what, Twins.Act scene, Class<? extends RuntimeException> due, Twins.Act call) {
        TWINS.refused(what, scene, due, call);
    }
}
