import java.util.NoSuchElementException;

/** Promises 22 to 40: what is told of the board. The dues are worked out by hand from the document. */
public final class LookTest {
    private static final Class<IndexOutOfBoundsException> NO_SUCH = IndexOutOfBoundsException.class;
    private static final Class<UnsupportedOperationException> UNSUPPORTED = UnsupportedOperationException.class;
    private static final Class<NoSuchElementException> NONE = NoSuchElementException.class;
    private static final Check CHECK = new Check("LookTest");

    public static void main(String[] args) {
        items();
        netAt();
        pouredAndIslands();
        pouredGaps();
        pouredAreas();
        pouredAnew();
        pouredCorners();
        joined();
        joinedByPouredCopper();
        opens();
        shorts();
        gaps();
        airLength();
        path();
        pathOverBothLayers();
        drillWay();
        trackLength();
        joinedShare();
        meanPins();
        isAsDrawn();
        isConsistent();
        System.exit(CHECK.end());
    }

    private static void items() {
        Coppertrace board = Boards.placed(false, 2, 2);
        board.track(0, 1, 3, 4, 3, true);
        board.via(0, 3, 4);
        board.track(0, 0, 17, 4, 3, false);
        CHECK.same("three items", board.items(), 3);
        CHECK.same("a track", board.kindOf(0), 't');
        CHECK.same("a via", board.kindOf(1), 'v');
        CHECK.same("first cell upwards", board.cellOf(0, 0), 280 + 83);
        CHECK.same("last cell upwards", board.cellOf(0, 2), 280 + 123);
        CHECK.same("upper cell of a via", board.cellOf(1, 1), 280 + 83);
        CHECK.same("lower cell of a via", board.cellOf(1, 0), 83);
        CHECK.same("second cell to the right", board.cellOf(2, 1), 98);
        CHECK.thrown("a third cell of a via", NONE, () -> board.cellOf(1, 2));
        CHECK.thrown("a fourth cell of three", NONE, () -> board.cellOf(0, 3));
        CHECK.thrown("cell -1", NONE, () -> board.cellOf(0, -1));
        CHECK.thrown("a far cell", NONE, () -> board.cellOf(0, Integer.MAX_VALUE));
        board.erase(0);
        CHECK.same("two items", board.items(), 2);
        CHECK.same("not there any more", board.kindOf(0), '-');
        CHECK.thrown("cell of what is gone", NONE, () -> board.cellOf(0, 0));
        for (int item : new int[] {3, -1, 150, Integer.MAX_VALUE, Integer.MIN_VALUE}) {
            CHECK.thrown("kind of item " + item, NO_SUCH, () -> board.kindOf(item));
            CHECK.thrown("cell of item " + item, NO_SUCH, () -> board.cellOf(item, -1));
        }
    }

    private static void netAt() {
        Coppertrace board = new Coppertrace();
        board.addPart(0, 2, false);
        board.addPart(0, 1, true);
        board.place(0, 5, 5, 0);
        board.setWire(0, 1, true);
        board.track(1, 0, 4, 5, 4, false);
        board.track(0, 0, 4, 5, 2, true);
        board.setWire(0, 1, false);
        CHECK.same("the pad, and not the track of the other pin", board.netAt(105), 0);
        CHECK.same("the other pad", board.netAt(106), 1);
        CHECK.same("the item with the lowest number", board.netAt(104), 1);
        CHECK.same("the second item", board.netAt(124), 0);
        CHECK.thrown("the other layer has none", NONE, () -> board.netAt(384));
        board.pour(2, 1, 0, 0, 5, 5);
        board.pour(2, 0, 0, 0, 5, 5);
        board.via(2, 0, 0);
        CHECK.same("poured copper", board.netAt(280 + 63), 2);
        CHECK.same("poured copper of the other layer", board.netAt(63), 2);
        CHECK.thrown("beside the area", NONE, () -> board.netAt(280 + 66));
        CHECK.same("an item before an area", board.netAt(104), 1);
        for (int cell : new int[] {-1, 560, Integer.MIN_VALUE}) {
            CHECK.thrown("no cell " + cell, NO_SUCH, () -> board.netAt(cell));
        }
        board.setWire(0, 2, true);
        CHECK.same("the net of now", board.netAt(63), 0);
    }

    private static void pouredAndIslands() {
        Coppertrace board = Boards.placed(false, 5, 5, 12, 12, 19, 0);
        board.setWire(0, 1, true);
        board.lift(1);
        CHECK.same("the area", board.pour(0, 0, 0, 0, 19, 13), 0);
        CHECK.same("all but the pad of another net", board.poured(0), 279);
        CHECK.same("one island", board.islands(0), 1);
        board.track(2, 0, 10, 0, 14, true);
        CHECK.same("left of the wall, the right side is dropped", board.poured(0), 140);
        CHECK.same("one island of two", board.islands(0), 1);
        board.place(1, 12, 12, 0);
        CHECK.same("right of the wall has its own pad", board.poured(0), 140 + 125);
        CHECK.same("two islands", board.islands(0), 2);
        board.lift(1);
        board.track(0, 1, 12, 12, 2, true);
        CHECK.same("a track of the other layer does not hold an island", board.islands(0), 1);
        board.via(1, 12, 12);
        CHECK.same("a via does", board.islands(0), 2);
        for (int area : new int[] {-1, 1, 4, Integer.MAX_VALUE}) {
            CHECK.thrown("poured of area " + area, NO_SUCH, () -> board.poured(area));
            CHECK.thrown("islands of area " + area, NO_SUCH, () -> board.islands(area));
        }
        Coppertrace corner = Boards.placed(false, 0, 0, 19, 13);
        corner.track(1, 0, 1, 0, 2, false);
        corner.track(1, 0, 0, 1, 2, true);
        corner.pour(0, 0, 0, 0, 1, 1);
        CHECK.same("cells that meet at a corner are no island together", corner.poured(0), 1);
        corner.erase(1);
        CHECK.same("cells next to each other are", corner.poured(0), 3);
    }

    private static void pouredGaps() {
        Coppertrace board = Boards.placed(false, 5, 5, 12, 12, 19, 0);
        board.track(1, 0, 10, 0, 14, true);
        board.pour(0, 0, 0, 0, 19, 13);
        board.setGap(0, 1);
        CHECK.same("the gap of its own net", board.poured(0), 9 * 14);
        board.setGap(1, 2);
        CHECK.same("the gap of the other net", board.poured(0), 8 * 14);
        board.setGap(0, 0);
        CHECK.same("the greater one of both", board.poured(0), 8 * 14);
        board.setGap(1, 0);
        CHECK.same("without a gap", board.poured(0), 10 * 14);
        board.setWire(0, 1, true);
        CHECK.same("of one net", board.poured(0), 279);
        Coppertrace through = Boards.placed(true, 5, 5, 9, 9);
        through.pour(0, 1, 4, 4, 10, 10);
        CHECK.same("a pad that goes through, on the layer 1", through.poured(0), 48);
        through.setGap(1, 2);
        CHECK.same("with its gap", through.poured(0), 49 - 16);
    }

    private static void pouredAreas() {
        Coppertrace board = Boards.placed(false, 5, 5, 15, 5, 2, 12);
        board.setGap(2, 1);
        board.pour(0, 0, 0, 0, 9, 13);
        board.pour(1, 0, 0, 0, 19, 13);
        // Pin 2 with its gap of 1 takes nine cells out of the first area.
        CHECK.same("the first area", board.poured(0), 140 - 9);
        CHECK.same("the second area, behind the first one", board.poured(1), 140);
        board.setGap(1, 1);
        CHECK.same("with a gap to the first area", board.poured(1), 126);
        CHECK.same("a later area takes nothing from an earlier one", board.poured(0), 131);
        CHECK.same("the first area that has the cell", board.netAt(0), 0);
        board.lift(0);
        CHECK.same("dropped", board.poured(0), 0);
        CHECK.same("a dropped one does not matter", board.poured(1), 280 - 9);
        board.setWire(0, 1, true);
        CHECK.same("an area of one net with another one", board.poured(1), 271);
        CHECK.same("both pour into the same cells", board.poured(0), 0);
        board.via(1, 3, 3);
        CHECK.same("now that one is held", board.poured(0), 131);
        CHECK.same("and the other one stays", board.poured(1), 271);
        board.pour(2, 1, 0, 0, 19, 13);
        CHECK.same("nothing holds it in the layer 1", board.poured(2), 0);
        board.via(2, 2, 12);
        CHECK.same("layers do not mix", board.poured(2), 280 - 9);
    }

    private static void pouredAnew() {
        Coppertrace board = Boards.placed(false, 5, 5, 15, 5);
        board.setWire(0, 1, true);
        board.addPart(0, 1, false);
        board.pour(0, 0, 0, 0, 19, 13);
        CHECK.same("joined by poured copper", board.opens(0), 0);
        board.track(2, 0, 10, 0, 14, true);
        CHECK.same("cut by a track", board.opens(0), 1);
        board.erase(0);
        CHECK.same("poured again", board.opens(0), 0);
        board.setWire(0, 1, false);
        CHECK.same("now the other pad is in the way", board.poured(0), 279);
        CHECK.same("and apart", board.areJoined(0, 1), false);
    }

    private static void pouredCorners() {
        Coppertrace first = Boards.placed(false, 1, 0, 19, 13);
        first.pour(0, 0, 0, 0, 1, 0);
        first.pour(1, 0, 0, 0, 19, 13);
        CHECK.same("the first corner is the first area's", first.poured(0), 2);
        CHECK.same("and not the second one's", first.poured(1), 278);
        Coppertrace low = Boards.placed(false, 0, 0, 2, 0);
        low.setWire(0, 1, true);
        low.pour(0, 0, 0, 0, 2, 0);
        both(low, 0, 1, true, "along the lowest row");
        Coppertrace high = Boards.placed(false, 19, 13, 17, 13);
        high.setWire(0, 1, true);
        high.addPart(0, 1, false);
        high.track(2, 0, 18, 12, 2, true);
        high.pour(0, 0, 17, 11, 19, 13);
        both(high, 0, 1, true, "round a track in the highest row");
    }

    private static void joined() {
        Coppertrace board = Boards.placed(false, 2, 5, 6, 5, 6, 9);
        board.addPart(0, 1, false);
        board.setWire(0, 1, true);
        both(board, 0, 1, false, "apart");
        both(board, 0, 0, true, "with itself");
        both(board, 3, 3, false, "itself, not placed");
        both(board, 0, 3, false, "with one that is not placed");
        board.track(0, 0, 2, 5, 3, false);
        board.track(0, 0, 5, 5, 2, false);
        both(board, 0, 1, false, "cells next to each other only");
        board.track(0, 1, 4, 5, 2, false);
        both(board, 0, 1, false, "the other layer's track");
        board.via(0, 4, 5);
        both(board, 0, 1, false, "by one via");
        board.via(1, 5, 5);
        both(board, 0, 1, true, "by both vias");
        both(board, 1, 0, true, "the other way round");
        both(board, 1, 2, false, "with a pad of another net");
        board.setWire(1, 2, true);
        board.track(2, 0, 6, 5, 5, true);
        board.setWire(1, 2, false);
        both(board, 0, 2, true, "of whatever nets");
        for (int pin : new int[] {-1, 4}) {
            CHECK.thrown("areJoined, pin " + pin, NO_SUCH, () -> board.areJoined(pin, 0));
            CHECK.thrown("areJoined, other " + pin, NO_SUCH, () -> board.areJoined(0, pin));
            CHECK.thrown("by paint, pin " + pin, NO_SUCH, () -> board.areJoinedByPaint(pin, 0));
            CHECK.thrown("by paint, other " + pin, NO_SUCH, () -> board.areJoinedByPaint(0, pin));
        }
        Coppertrace through = Boards.placed(true, 2, 5, 6, 5, 4, 5);
        through.setName(0, 'A');
        through.setName(1, 'A');
        through.setName(2, 'A');
        through.track(0, 0, 2, 5, 3, false);
        through.track(0, 1, 4, 5, 3, false);
        both(through, 0, 1, true, "by a pad that goes through");
        through.lift(2);
        both(through, 0, 1, false, "without it");
    }

    private static void both(Coppertrace board, int pin, int other, boolean due, String what) {
        CHECK.same("areJoined " + what, board.areJoined(pin, other), due);
        CHECK.same("areJoinedByPaint " + what, board.areJoinedByPaint(pin, other), due);
    }

    private static void joinedByPouredCopper() {
        Coppertrace board = Boards.placed(false, 2, 5, 8, 5);
        board.setWire(0, 1, true);
        board.pour(0, 0, 0, 0, 4, 13);
        board.pour(0, 0, 5, 0, 9, 13);
        both(board, 0, 1, false, "areas next to each other");
        board.pour(1, 0, 4, 0, 5, 0);
        both(board, 0, 1, false, "a dropped island between them");
        board.track(1, 0, 5, 0, 2, false);
        both(board, 0, 1, true, "areas with the same cell");
        board.pour(0, 1, 0, 0, 9, 13);
        both(board, 0, 1, true, "and one on the other layer");
        CHECK.same("consistent", board.isConsistent(), true);
    }

    private static void opens() {
        Coppertrace board = Boards.placed(false, 2, 5, 6, 5, 10, 5, 14, 5);
        for (int pin = 0; pin < 3; pin++) {
            board.setWire(pin, pin + 1, true);
        }
        CHECK.same("four groups", board.opens(3), 3);
        board.route(1, 2);
        CHECK.same("three groups", board.opens(0), 2);
        board.lift(3);
        CHECK.same("two groups", board.opens(3), 1);
        board.lift(0);
        CHECK.same("one group", board.opens(3), 0);
        board.lift(1);
        board.lift(2);
        CHECK.same("none is placed", board.opens(0), 0);
        CHECK.thrown("opens of pin 4", NO_SUCH, () -> board.opens(4));
        CHECK.thrown("opens of pin -1", NO_SUCH, () -> board.opens(-1));
    }

    private static void shorts() {
        Coppertrace board = Boards.placed(false, 2, 5, 6, 5, 10, 5, 14, 5);
        for (int pin = 0; pin < 3; pin++) {
            board.setWire(pin, pin + 1, true);
        }
        board.route(0, 1);
        board.route(1, 2);
        board.route(2, 3);
        CHECK.same("one net has no short", board.shorts(), 0);
        board.setWire(1, 2, false);
        CHECK.same("two nets of two pads each", board.shorts(), 1);
        board.setWire(0, 1, false);
        board.setWire(2, 3, false);
        CHECK.same("four nets", board.shorts(), 6);
        board.lift(3);
        CHECK.same("three of them are placed", board.shorts(), 3);
        board.erase(0);
        CHECK.same("two of them are joined", board.shorts(), 1);
    }

    private static void gaps() {
        Coppertrace board = Boards.placed(true, 5, 5, 7, 5, 5, 7);
        CHECK.same("two away, no gap", board.gaps(), 0);
        board.setGap(0, 2);
        CHECK.same("pad to pad", board.gaps(), 2);
        board.setGap(1, 2);
        CHECK.same("all three", board.gaps(), 3);
        board.setWire(0, 1, true);
        CHECK.same("not in one net", board.gaps(), 2);
        board.setGap(0, 0);
        board.setGap(1, 0);
        board.track(0, 1, 0, 0, 5, false);
        board.track(2, 0, 0, 1, 5, false);
        board.via(2, 9, 1);
        board.setGap(2, 1);
        CHECK.same("not in other layers", board.gaps(), 0);
        board.track(0, 0, 6, 3, 9, false);
        board.setGap(2, 2);
        // Pin 2's pad to both others, its track to that of row 3, its via too.
        CHECK.same("pads, tracks and vias", board.gaps(), 2 + 1 + 1);
        board.erase(3);
        CHECK.same("without what was erased", board.gaps(), 2);
        board.pour(0, 0, 0, 0, 19, 13);
        CHECK.same("poured copper is not counted", board.gaps(), 2);
    }

    private static void airLength() {
        Coppertrace board = Boards.placed(false, 0, 0, 10, 0, 10, 8, 0, 8);
        for (int pin = 0; pin < 3; pin++) {
            board.setWire(pin, pin + 1, true);
        }
        CHECK.same("a tree, not a chain", board.airLength(), 8 + 8 + 10);
        board.setWire(0, 2, true);
        CHECK.same("wires are not what counts", board.airLength(), 26);
        board.route(1, 2);
        CHECK.same("what is joined costs nothing", board.airLength(), 8 + 10);
        board.track(0, 0, 0, 0, 9, false);
        CHECK.same("pads count, not tracks", board.airLength(), 18);
        board.pour(0, 0, 0, 0, 19, 13);
        CHECK.same("nor poured copper", board.airLength(), 18);
        board.lift(3);
        CHECK.same("two groups", board.airLength(), 10);
        board.addPart(0, 2, true);
        board.setWire(4, 5, true);
        CHECK.same("all nets together", board.place(4, 15, 13, 3), 11);
    }

    private static void path() {
        Coppertrace board = Boards.placed(false, 2, 5, 6, 5, 6, 9);
        board.setWire(0, 1, true);
        board.setWire(0, 2, true);
        CHECK.thrown("not joined", NONE, () -> board.path(0, 1));
        CHECK.same("to itself", board.path(0, 0), 0);
        board.pour(0, 0, 0, 0, 19, 13);
        CHECK.thrown("only by poured copper", NONE, () -> board.path(0, 1));
        board.track(0, 0, 2, 5, 9, false);
        CHECK.same("along a track", board.path(0, 1), 4);
        board.track(0, 0, 3, 5, 2, false);
        CHECK.same("two tracks in the same cells are one way", board.path(1, 0), 4);
        board.track(0, 0, 6, 4, 6, true);
        CHECK.same("round a corner", board.path(0, 2), 8);
        // A loop beside the way is not gone through without a cell twice, one on it is.
        board.track(0, 0, 10, 5, 3, true);
        board.track(0, 0, 8, 7, 3, false);
        board.track(0, 0, 8, 5, 3, true);
        CHECK.same("a loop beside the way", board.path(0, 2), 8);
        board.track(0, 0, 6, 7, 3, false);
        CHECK.thrown("a loop on the way", UNSUPPORTED, () -> board.path(0, 2));
        CHECK.same("not on the way to this one", board.path(0, 1), 4);
        board.lift(1);
        CHECK.thrown("not placed", NONE, () -> board.path(0, 1));
        CHECK.thrown("not placed, from there", NONE, () -> board.path(1, 0));
        CHECK.thrown("itself, not placed", NONE, () -> board.path(1, 1));
        CHECK.thrown("path of pin 3", NO_SUCH, () -> board.path(3, 0));
        CHECK.thrown("path to pin -1", NO_SUCH, () -> board.path(0, -1));
    }

    private static void pathOverBothLayers() {
        Coppertrace board = Boards.placed(false, 2, 5, 6, 5);
        board.setWire(0, 1, true);
        board.via(0, 2, 5);
        board.via(0, 6, 5);
        board.track(0, 1, 2, 5, 5, false);
        CHECK.same("vias are steps", board.path(0, 1), 6);
        board.track(0, 0, 2, 5, 4, false);
        CHECK.same("a dead end", board.path(0, 1), 6);
        board.track(0, 0, 5, 5, 2, false);
        CHECK.thrown("two ways, one in each layer", UNSUPPORTED, () -> board.path(0, 1));
        Coppertrace through = Boards.placed(true, 2, 5, 6, 5);
        through.setWire(0, 1, true);
        through.track(0, 0, 2, 5, 5, false);
        CHECK.same("pads that go through, in the layer 0", through.path(0, 1), 4);
        through.track(0, 1, 6, 5, 5, false);
        CHECK.same("a dead end at the other pad", through.path(0, 1), 4);
    }

    private static void drillWay() {
        Coppertrace board = Boards.placed(false, 2, 5, 6, 5);
        CHECK.same("surface pads are no holes", board.drillWay(), 0);
        board.via(0, 0, 0);
        CHECK.same("one hole", board.drillWay(), 0);
        board.via(0, 10, 0);
        CHECK.same("two holes", board.drillWay(), 10);
        board.via(0, 4, 3);
        CHECK.same("three holes, from any to any", board.drillWay(), 7 + 9);
        board.via(0, 4, 3);
        CHECK.same("two in one place", board.drillWay(), 16);
        board.via(0, 0, 13);
        CHECK.same("from the far one", board.drillWay(), 13 + 7 + 9);
        board.track(0, 1, 9, 9, 2, true);
        CHECK.same("tracks are no holes", board.drillWay(), 29);
        board.erase(1);
        CHECK.same("an erased via is none", board.drillWay(), 13 + 7);
        board.addPart(0, 4, true);
        CHECK.same("a part that is not placed", board.drillWay(), 20);
        board.place(2, 19, 13, 3);
        // From (4, 3) to (0, 0), (0, 13), (19, 13) and (19, 10): 3 less than from (0, 13) on.
        CHECK.same("eight holes", board.drillWay(), 7 + 13 + 19 + 3);
        board.via(0, 19, 9);
        CHECK.same("nine holes", board.drillWay(), 43);
        board.via(0, 19, 8);
        CHECK.thrown("ten holes", UNSUPPORTED, () -> board.drillWay());
        board.lift(2);
        CHECK.same("six holes", board.drillWay(), 13 + 7 + 20 + 1);
    }

    private static void trackLength() {
        Coppertrace board = Boards.placed(false, 2, 5);
        board.track(0, 0, 0, 0, 20, false);
        CHECK.same("one track", board.trackLength(), 19L);
        board.track(0, 1, 0, 0, 14, true);
        board.via(0, 3, 3);
        CHECK.same("two tracks and a via", board.trackLength(), 32L);
        board.track(0, 0, 0, 0, 20, false);
        CHECK.same("one twice", board.trackLength(), 51L);
        board.erase(0);
        CHECK.same("without the first one", board.trackLength(), 32L);
    }

    private static void joinedShare() {
        Coppertrace board = Boards.placed(false, 2, 5, 6, 5, 10, 5, 14, 5, 2, 9, 6, 9);
        CHECK.thrown("no net of two pins", ArithmeticException.class, () -> board.joinedShare());
        board.setWire(0, 1, true);
        CHECK.same("an open one", board.joinedShare(), 0f);
        board.setWire(2, 3, true);
        board.setWire(4, 5, true);
        board.route(0, 1);
        CHECK.same("one of three", board.joinedShare(), 1f / 3f);
        board.lift(2);
        CHECK.same("one pad has no open places", board.joinedShare(), 2f / 3f);
        board.pour(4, 0, 0, 9, 19, 13);
        CHECK.same("poured copper counts", board.joinedShare(), 1f);
    }

    private static void meanPins() {
        Coppertrace board = new Coppertrace();
        CHECK.thrown("no nets", ArithmeticException.class, () -> board.meanPins());
        board.addPart(0, 5, false);
        CHECK.same("each pin a net", board.meanPins(), 1.0);
        board.setWire(0, 1, true);
        board.setWire(1, 2, true);
        CHECK.same("five by three", board.meanPins(), 5.0 / 3.0);
        board.setWire(2, 3, true);
        board.setWire(4, 3, true);
        CHECK.same("all one net", board.meanPins(), 5.0);
    }

    private static void isAsDrawn() {
        Coppertrace board = Boards.placed(false, 2, 5, 6, 5, 10, 5);
        CHECK.same("nothing is drawn or joined", board.isAsDrawn(), true);
        board.setWire(0, 1, true);
        CHECK.same("drawn, but not joined", board.isAsDrawn(), false);
        board.route(0, 1);
        CHECK.same("drawn and joined", board.isAsDrawn(), true);
        board.setWire(1, 2, true);
        board.route(1, 2);
        board.setWire(1, 2, false);
        CHECK.same("joined, but not drawn", board.isAsDrawn(), false);
        board.lift(2);
        CHECK.same("a pad that is not placed does not count", board.isAsDrawn(), true);
        board.erase(0);
        CHECK.same("open again", board.isAsDrawn(), false);
        board.pour(0, 0, 0, 0, 19, 13);
        CHECK.same("poured copper counts", board.isAsDrawn(), true);
    }

    private static void isConsistent() {
        Coppertrace board = Boards.placed(true, 2, 5, 6, 5, 10, 5, 14, 5);
        CHECK.same("pads", board.isConsistent(), true);
        board.setWire(0, 1, true);
        board.setWire(2, 3, true);
        board.routeAll(2);
        board.pour(0, 0, 0, 0, 19, 13);
        board.pour(2, 0, 0, 0, 19, 13);
        board.pour(2, 1, 3, 0, 19, 8);
        board.pour(1, 1, 0, 0, 12, 13);
        CHECK.same("with four areas", board.isConsistent(), true);
        for (int gap = 2; gap >= 0; gap--) {
            board.setGap(gap, gap);
            CHECK.same("with a gap " + gap, board.isConsistent(), true);
        }
        board.setWire(0, 3, true);
        board.setWire(0, 1, false);
        CHECK.same("with a short", board.isConsistent(), true);
        CHECK.same("which is there", board.shorts() > 0, true);
    }
}
