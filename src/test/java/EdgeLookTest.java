import java.util.NoSuchElementException;

/**
 * The edges of the promises 22 to 40 and of the terms "Joined" and "Ways of the air": nothing and all
 * that there can be, the ends of items, the sides of the board, and what is only next to something.
 */
public final class EdgeLookTest {
    private static final Class<NoSuchElementException> NONE = NoSuchElementException.class;
    private static final Class<UnsupportedOperationException> UNSUPPORTED = UnsupportedOperationException.class;
    private static final Class<ArithmeticException> ARITHMETIC = ArithmeticException.class;
    private static final Check CHECK = new Check("EdgeLookTest");

    public static void main(String[] args) {
        itemsFromNoneToAll();
        kindsOfItems();
        cellsOfItems();
        netAtTheFirstAndTheLastCell();
        netOfThePadFirst();
        netOfTheLowestItem();
        netOfTheFirstArea();
        netOfDroppedCopper();
        pouredFromNoneToAll();
        pouredCellsOfItsOwnNet();
        pouredCopperHoldsNothing();
        islandsAtCorners();
        islandsAtTheSides();
        islandsOfALayer();
        mostIslands();
        pouredAsNow();
        eachLookPoursAnew();
        joinedWithItself();
        joinedInOneStep();
        joinedInManySteps();
        joinedByASingleCell();
        joinedAtTheSides();
        joinedByNumbersOfCells();
        joinedInTheFirstCell();
        joinedByLayers();
        joinedByIslands();
        joinedInAllCorners();
        opensFromNoneToAll();
        shortsFromNoneToAll();
        shortsOfPairs();
        shortsByPouredCopper();
        gapsFromNoneToAll();
        gapsOfOwnPart();
        airFromNoneToAll();
        airOfGroups();
        airAsATree();
        airBesidesOtherNets();
        shortestPath();
        longestPath();
        pathsThatGoTwice();
        pathsBesideTheWay();
        pathsAndPouredCopper();
        pathsOfLiftedPads();
        holesFromNoneToNine();
        holesThatAreNone();
        holesFarAndNear();
        lengthFromNoneToAll();
        shareFromNoneToAll();
        shareOfNets();
        meanFromOneToAll();
        asDrawnOrNot();
        consistentWhenFull();
        lastCallOfAll();
        System.exit(CHECK.end());
    }

    private static void both(Coppertrace board, int pin, int other, boolean due, String what) {
        CHECK.same(what + ", by cells", board.areJoined(pin, other), due);
        CHECK.same(what + ", by painting", board.areJoinedByPaint(pin, other), due);
        CHECK.same(what + ", the other way round", board.areJoined(other, pin), due);
        CHECK.same(what + ", painted the other way round", board.areJoinedByPaint(other, pin), due);
    }

    /** All 12 parts of 6 pins, two of them in each of the rows 0, 2, 4 and so on to 10. */
    private static Coppertrace largest(boolean isThrough) {
        Coppertrace board = new Coppertrace();
        for (int part = 0; part < 12; part++) {
            board.addPart(0, 6, isThrough);
            board.place(part, 7 * (part % 2), 2 * (part / 2), 0);
        }
        return board;
    }

    private static void itemsFromNoneToAll() {
        Coppertrace board = Boards.singles(1, false);
        for (int item = 0; item < 150; item++) {
            CHECK.same("items", board.items(), item);
            board.via(0, 0, 0);
        }
        CHECK.same("all items", board.items(), 150);
        for (int item = 0; item < 150; item++) {
            board.erase(item);
        }
        CHECK.same("none again", board.items(), 0);
    }

    /** "'t' a track, 'v' a via, '-' if it is not there any more" */
    private static void kindsOfItems() {
        Coppertrace board = Boards.singles(1, false);
        for (int item = 0; item < 150; item += 3) {
            board.via(0, 3, 3);
            board.track(0, 0, 0, 0, 2, false);
            board.track(0, 1, 0, 0, 2, true);
        }
        board.erase(148);
        CHECK.same("the first one", board.kindOf(0), 'v');
        CHECK.same("the second one", board.kindOf(1), 't');
        CHECK.same("the last one", board.kindOf(149), 't');
        CHECK.same("the one that is gone", board.kindOf(148), '-');
    }

    /** "the index of the cell, from 0, by rising numbers of cells" */
    private static void cellsOfItems() {
        Coppertrace board = Boards.singles(1, false);
        board.track(0, 0, 0, 13, 20, false);
        board.track(0, 1, 19, 0, 14, true);
        board.via(0, 19, 13);
        board.track(0, 0, 18, 0, 2, false);
        for (int index = 0; index < 20; index++) {
            CHECK.same("to the right", board.cellOf(0, index), 260 + index);
        }
        for (int index = 0; index < 14; index++) {
            CHECK.same("up", board.cellOf(1, index), 299 + 20 * index);
        }
        CHECK.same("the via in the layer 0", board.cellOf(2, 0), 279);
        CHECK.same("the via in the layer 1", board.cellOf(2, 1), 559);
        CHECK.same("the last one of two", board.cellOf(3, 1), 19);
        CHECK.thrown("behind 20", NONE, () -> board.cellOf(0, 20));
        CHECK.thrown("behind 14", NONE, () -> board.cellOf(1, 14));
        CHECK.thrown("behind the via", NONE, () -> board.cellOf(2, 2));
        CHECK.thrown("behind two", NONE, () -> board.cellOf(3, 2));
        CHECK.thrown("ahead of the first one", NONE, () -> board.cellOf(0, -1));
    }

    private static void netAtTheFirstAndTheLastCell() {
        Coppertrace board = Boards.placed(true, 0, 0, 19, 13);
        CHECK.same("the first cell", board.netAt(0), 0);
        CHECK.same("the last cell", board.netAt(559), 1);
        CHECK.same("the last cell of the layer 0", board.netAt(279), 1);
        CHECK.same("the first cell of the layer 1", board.netAt(280), 0);
        CHECK.thrown("next to it", NONE, () -> board.netAt(1));
        CHECK.thrown("ahead of the last cell", NONE, () -> board.netAt(558));
    }

    /** "Returns the net of the pad, otherwise of the item with the lowest number" */
    private static void netOfThePadFirst() {
        Coppertrace board = Boards.wired(false, 2, 2, 6, 2);
        board.track(0, 0, 2, 2, 5, false);
        board.setWire(0, 1, false);
        CHECK.same("the pad of the higher pin", board.netAt(46), 1);
        CHECK.same("the item", board.netAt(45), 0);
        board.lift(1);
        CHECK.same("the item where the pad was", board.netAt(46), 0);
    }

    private static void netOfTheLowestItem() {
        Coppertrace board = Boards.singles(3, false);
        board.setWire(0, 1, true);
        board.via(1, 5, 5);
        board.via(0, 5, 5);
        board.setWire(0, 1, false);
        CHECK.same("the first item, of the higher pin", board.netAt(105), 1);
        board.erase(0);
        CHECK.same("the second item", board.netAt(385), 0);
        board.erase(1);
        CHECK.thrown("none", NONE, () -> board.netAt(105));
    }

    /** "otherwise of the first area that has it" */
    private static void netOfTheFirstArea() {
        Coppertrace board = Boards.wired(false, 0, 0, 19, 13);
        board.pour(1, 0, 10, 0, 19, 13);
        board.pour(0, 0, 0, 0, 19, 13);
        CHECK.same("both have it", board.netAt(15), 0);
        board.setWire(0, 1, false);
        CHECK.same("the first one has it", board.netAt(15), 1);
        CHECK.same("the second one has it", board.netAt(5), 0);
        CHECK.same("an item has it", board.track(0, 0, 3, 3, 2, false), 0);
        CHECK.same("and tells its net", board.netAt(63), 0);
    }

    private static void netOfDroppedCopper() {
        Coppertrace board = Boards.placed(false, 0, 0, 19, 13);
        board.addPart(0, 1, false);
        board.pour(2, 0, 0, 0, 19, 13);
        CHECK.thrown("a dropped island", NONE, () -> board.netAt(5));
        board.pour(0, 0, 0, 0, 19, 13);
        CHECK.same("a later area in its place", board.netAt(5), 0);
    }

    private static void pouredFromNoneToAll() {
        Coppertrace board = Boards.singles(1, false);
        board.pour(0, 0, 0, 0, 19, 13);
        CHECK.same("no copper of its net", board.poured(0), 0);
        CHECK.same("no island", board.islands(0), 0);
        board.via(0, 19, 13);
        CHECK.same("a layer", board.poured(0), 280);
        CHECK.same("one island", board.islands(0), 1);
        board.pour(0, 1, 19, 13, 19, 13);
        CHECK.same("a cell", board.poured(1), 1);
    }

    /** "all cells of its columns and rows in its layer, also those of its own net" */
    private static void pouredCellsOfItsOwnNet() {
        Coppertrace board = Boards.placed(true, 4, 4);
        board.track(0, 0, 2, 5, 5, false);
        board.via(0, 6, 6);
        board.pour(0, 0, 4, 4, 6, 6);
        CHECK.same("with its pads, tracks and vias", board.poured(0), 9);
    }

    /** "islands that have no cell of a pad or an item of its net are dropped" */
    private static void pouredCopperHoldsNothing() {
        Coppertrace board = Boards.placed(false, 2, 2);
        board.addPart(0, 1, false);
        board.pour(0, 0, 0, 0, 9, 13);
        board.pour(0, 0, 5, 0, 19, 13);
        board.pour(0, 0, 10, 0, 19, 13);
        CHECK.same("held by a pad", board.poured(0), 140);
        CHECK.same("not held by copper of its own area's net", board.poured(1), 0);
        CHECK.same("nor next to it", board.poured(2), 0);
        board.track(1, 0, 12, 3, 2, false);
        CHECK.same("nor by an item of another net", board.poured(2), 0);
        board.setWire(0, 1, true);
        CHECK.same("but of its net", board.poured(2), 140);
    }

    private static void islandsAtCorners() {
        Coppertrace board = Boards.singles(3, false);
        board.via(0, 5, 5);
        board.via(0, 6, 6);
        board.via(1, 5, 6);
        board.via(1, 6, 5);
        board.pour(0, 0, 5, 5, 6, 6);
        CHECK.same("two cells that meet at a corner", board.islands(0), 2);
        board.erase(3);
        CHECK.same("with one between them", board.islands(0), 1);
        CHECK.same("of three cells", board.poured(0), 3);
    }

    /** Cells at both ends of the rows have numbers that follow each other, but are not next to each other. */
    private static void islandsAtTheSides() {
        Coppertrace board = Boards.placed(false, 0, 6, 10, 7);
        board.track(1, 0, 10, 0, 14, true);
        board.pour(0, 0, 0, 0, 19, 13);
        CHECK.same("the left half alone", board.poured(0), 140);
        board.via(0, 19, 5);
        CHECK.same("two islands", board.islands(0), 2);
        CHECK.same("with the right half", board.poured(0), 140 + 126);
    }

    private static void islandsOfALayer() {
        Coppertrace board = Boards.placed(false, 19, 13);
        board.pour(0, 0, 0, 0, 19, 13);
        board.pour(0, 1, 0, 0, 19, 13);
        CHECK.same("the layer with the pad", board.poured(0), 280);
        CHECK.same("the other layer", board.poured(1), 0);
    }

    /** Columns of another net leave ten columns that are next to none. */
    private static void mostIslands() {
        Coppertrace board = Boards.singles(2, false);
        for (int column = 1; column < 20; column += 2) {
            board.track(1, 0, column, 0, 14, true);
        }
        for (int column = 0; column < 20; column += 2) {
            board.via(0, column, column % 14);
        }
        board.pour(0, 0, 0, 0, 19, 13);
        CHECK.same("ten islands", board.islands(0), 10);
        CHECK.same("all their cells", board.poured(0), 140);
        board.erase(19);
        CHECK.same("one is dropped", board.islands(0), 9);
        board.erase(0);
        CHECK.same("two are one", board.islands(0), 8);
        CHECK.same("and their cells", board.poured(0), 140 - 14 + 14);
    }

    /** "Copper is always poured as all else is now." */
    private static void pouredAsNow() {
        Coppertrace board = Boards.placed(false, 0, 0, 19, 13);
        board.addPart(0, 2, false);
        board.pour(0, 0, 0, 0, 19, 13);
        CHECK.same("at first", board.poured(0), 279);
        board.place(2, 5, 5, 0);
        CHECK.same("behind place", board.poured(0), 277);
        board.setGap(2, 1);
        CHECK.same("behind setGap", board.poured(0), 279 - 9);
        board.setWire(2, 0, true);
        // The gap is one of its own net now: nine cells round the pin 3, four in the corner.
        CHECK.same("behind setWire", board.poured(0), 280 - 9 - 4);
        board.swap(2, 3);
        CHECK.same("behind swap", board.poured(0), 279 - 9);
        board.setGap(2, 0);
        CHECK.same("behind setGap again", board.poured(0), 278);
        board.setName(2, 'n');
        board.setName(3, 'n');
        CHECK.same("behind setName", board.poured(0), 279);
        board.track(1, 0, 18, 13, 2, false);
        CHECK.same("behind track", board.poured(0), 278);
        board.via(1, 17, 13);
        CHECK.same("behind via", board.poured(0), 277);
        board.erase(0);
        CHECK.same("behind erase", board.poured(0), 278);
        board.lift(1);
        CHECK.same("behind lift", board.poured(0), 279);
        board.addPart(0, 1, false);
        board.place(3, 10, 0, 0);
        board.setWire(4, 1, true);
        board.place(1, 10, 4, 0);
        CHECK.same("two pads more", board.poured(0), 277);
        board.route(1, 4);
        CHECK.same("behind route", board.poured(0), 274);
    }

    /** Each of the calls that look at poured copper pours, whether another one has done so or not. */
    private static void eachLookPoursAnew() {
        CHECK.same("netAt", pouredOver().netAt(0), 0);
        Coppertrace dropped = pouredOver();
        dropped.lift(0);
        dropped.lift(1);
        CHECK.thrown("netAt of what is dropped", NONE, () -> dropped.netAt(0));
        CHECK.same("poured", pouredOver().poured(0), 280);
        CHECK.same("islands", pouredOver().islands(0), 1);
        CHECK.same("areJoined", pouredOver().areJoined(0, 1), true);
        CHECK.same("areJoinedByPaint", pouredOver().areJoinedByPaint(0, 1), true);
        CHECK.same("opens", pouredOver().opens(1), 0);
        CHECK.same("joinedShare", pouredOver().joinedShare(), 1f);
        CHECK.same("isAsDrawn", pouredOver().isAsDrawn(), true);
        CHECK.same("isConsistent", pouredOver().isConsistent(), true);
        CHECK.same("poured beside", pouredBeside().poured(0), 70);
        CHECK.same("areJoined beside", pouredBeside().areJoined(0, 1), false);
        CHECK.same("areJoinedByPaint beside", pouredBeside().areJoinedByPaint(0, 1), false);
        CHECK.same("opens beside", pouredBeside().opens(1), 1);
        CHECK.same("joinedShare beside", pouredBeside().joinedShare(), 0f);
        CHECK.same("isAsDrawn beside", pouredBeside().isAsDrawn(), false);
        CHECK.thrown("netAt beside", NONE, () -> pouredBeside().netAt(5));
    }

    private static Coppertrace pouredBeside() {
        Coppertrace board = Boards.wired(false, 2, 5, 6, 5);
        board.pour(0, 0, 0, 0, 4, 13);
        return board;
    }

    private static Coppertrace pouredOver() {
        Coppertrace board = Boards.wired(false, 2, 5, 6, 5);
        board.pour(0, 0, 0, 0, 19, 13);
        return board;
    }

    private static void joinedWithItself() {
        Coppertrace board = Boards.singles(2, true);
        both(board, 0, 0, false, "itself, not placed");
        board.place(0, 0, 0, 0);
        both(board, 0, 0, true, "itself, placed");
        both(board, 0, 1, false, "one that is not placed");
        board.lift(0);
        both(board, 0, 0, false, "itself, lifted");
    }

    /** Pads of a part that are next to each other are not joined, but a track of two cells joins them. */
    private static void joinedInOneStep() {
        Coppertrace board = new Coppertrace();
        board.addPart(0, 2, false);
        board.place(0, 18, 13, 0);
        board.setWire(0, 1, true);
        both(board, 0, 1, false, "next to each other");
        board.track(0, 0, 18, 13, 2, false);
        both(board, 0, 1, true, "with a track over both");
    }

    private static void joinedInManySteps() {
        Coppertrace board = Boards.wired(false, 0, 0, 19, 13);
        for (int step = 0; step < 13; step++) {
            board.track(0, step % 2, step, step, 2, false);
            board.via(0, step + 1, step);
            board.track(0, (step + 1) % 2, step + 1, step, 2, true);
        }
        board.track(0, 1, 13, 13, 7, false);
        both(board, 0, 1, false, "all but the last via");
        board.via(0, 19, 13);
        both(board, 0, 1, true, "through 41 items");
        board.erase(19);
        both(board, 0, 1, false, "without one in the middle");
    }

    /** "if both have the same cell, not only cells next to each other" */
    private static void joinedByASingleCell() {
        Coppertrace board = Boards.wired(false, 2, 5, 8, 5);
        board.track(0, 0, 2, 5, 3, false);
        board.track(0, 0, 5, 5, 4, false);
        both(board, 0, 1, false, "tracks with ends next to each other");
        board.track(0, 0, 4, 6, 2, false);
        both(board, 0, 1, false, "a track beside both");
        board.track(0, 0, 4, 5, 2, false);
        both(board, 0, 1, true, "a track over both ends");
        board.erase(3);
        board.via(0, 4, 5);
        board.via(0, 5, 5);
        both(board, 0, 1, false, "vias next to each other");
        board.track(0, 1, 4, 5, 2, false);
        both(board, 0, 1, true, "and a track below them");
    }

    private static void joinedAtTheSides() {
        Coppertrace sides = Boards.wired(false, 15, 5, 5, 6);
        sides.track(0, 0, 15, 5, 5, false);
        sides.track(0, 0, 0, 6, 6, false);
        both(sides, 0, 1, false, "one ends in the last column, one begins in the first one");
        sides.track(0, 1, 19, 5, 2, true);
        both(sides, 0, 1, false, "a track in the other layer");
    }

    private static void joinedByNumbersOfCells() {
        Coppertrace board = Boards.wired(true, 19, 11, 0, 2);
        board.track(0, 0, 19, 11, 3, true);
        board.track(0, 1, 0, 0, 3, true);
        both(board, 0, 1, false, "the last cell of the layer 0, the first one of the layer 1");
    }

    /** What an erased track has joined in the first cell is not joined any more. */
    private static void joinedInTheFirstCell() {
        Coppertrace board = Boards.wired(false, 0, 0, 2, 0);
        board.track(0, 0, 0, 0, 3, false);
        both(board, 0, 1, true, "along the first row");
        board.erase(0);
        board.track(0, 0, 1, 0, 2, false);
        both(board, 0, 1, false, "without the first step");
        board.via(0, 0, 0);
        both(board, 0, 1, false, "with a via in the first cell");
        board.track(0, 0, 0, 0, 2, false);
        both(board, 0, 1, true, "with the first step");
    }

    /** "if they are the two cells of a via or of a pad that goes through" */
    private static void joinedByLayers() {
        Coppertrace surface = Boards.wired(false, 2, 5, 6, 5);
        surface.track(0, 1, 2, 5, 5, false);
        both(surface, 0, 1, false, "surface pads over a track");
        surface.via(0, 2, 5);
        both(surface, 0, 1, false, "a via in one of them");
        surface.via(0, 6, 5);
        both(surface, 0, 1, true, "a via in each of them");
        Coppertrace through = Boards.wired(true, 2, 5, 6, 5);
        through.track(0, 1, 2, 5, 5, false);
        both(through, 0, 1, true, "pads that go through");
        Coppertrace mixed = Boards.placed(true, 2, 5);
        mixed.addPart(0, 1, false);
        mixed.place(1, 6, 5, 0);
        mixed.setWire(0, 1, true);
        mixed.track(0, 1, 2, 5, 5, false);
        both(mixed, 0, 1, false, "one that goes through and one for the surface");
    }

    private static void joinedByIslands() {
        Coppertrace board = Boards.wired(false, 2, 5, 17, 5);
        board.addPart(0, 1, false);
        board.pour(0, 0, 0, 0, 9, 13);
        board.pour(1, 0, 10, 0, 19, 13);
        both(board, 0, 1, false, "areas that are next to each other");
        board.pour(1, 0, 9, 0, 10, 0);
        both(board, 0, 1, false, "and one between them that is dropped");
        board.via(0, 10, 0);
        both(board, 0, 1, true, "and one that is not");
        board.erase(0);
        board.track(0, 0, 9, 13, 2, false);
        both(board, 0, 1, true, "and a track between them");
    }

    private static void joinedInAllCorners() {
        for (int layer = 0; layer <= 1; layer++) {
            Coppertrace board = Boards.wired(true, 0, 0, 19, 0, 0, 13, 19, 13);
            board.setWire(1, 2, true);
            board.setWire(2, 3, true);
            board.pour(3, layer, 0, 0, 19, 13);
            for (int pin = 1; pin < 4; pin++) {
                both(board, 0, pin, true, "by copper of a whole layer");
            }
            Coppertrace sides = Boards.wired(true, 0, 0, 19, 13);
            sides.pour(0, layer, 0, 0, 19, 0);
            sides.pour(0, layer, 19, 0, 19, 13);
            both(sides, 0, 1, true, "along two sides");
            Coppertrace others = Boards.wired(true, 0, 0, 19, 13);
            others.pour(1, layer, 0, 0, 0, 13);
            others.pour(1, layer, 0, 13, 19, 13);
            both(others, 0, 1, true, "along the other two sides");
        }
    }

    /** "the groups in which its placed pads are joined, less 1, 0 if none is placed" */
    private static void opensFromNoneToAll() {
        Coppertrace board = new Coppertrace();
        for (int part = 0; part < 12; part++) {
            board.addPart(part % 3, 6, false);
        }
        for (int pin = 0; pin < 72; pin++) {
            board.setName(pin, 'N');
        }
        CHECK.same("none is placed", board.opens(71), 0);
        for (int part = 0; part < 12; part++) {
            board.place(part, 7 * (part % 2), 2 * (part / 2), 0);
            CHECK.same("placed are " + (part + 1), board.opens(0), 6 * part + 5);
        }
        for (int part = 0; part < 12; part++) {
            board.track(0, 0, 7 * (part % 2), 2 * (part / 2), 6, false);
            CHECK.same("joined are the parts to " + part, board.opens(71), 71 - 5 * (part + 1));
        }
        board.pour(0, 0, 0, 0, 19, 13);
        CHECK.same("joined by copper", board.opens(35), 0);
    }

    private static void shortsFromNoneToAll() {
        Coppertrace board = Boards.singles(12, false);
        for (int pin = 0; pin < 12; pin++) {
            board.setName(pin, 'N');
            board.place(pin, pin < 6 ? 3 * pin : 3 * (pin - 6), pin < 6 ? 0 : 5, 0);
        }
        board.track(0, 0, 0, 0, 20, false);
        board.track(0, 0, 0, 5, 20, false);
        board.track(0, 0, 0, 0, 6, true);
        CHECK.same("one net", board.shorts(), 0);
        for (int pin = 0; pin < 12; pin++) {
            board.setName(pin, '-');
        }
        CHECK.same("twelve nets", board.shorts(), 66);
        board.erase(2);
        CHECK.same("two groups of six", board.shorts(), 30);
        board.erase(0);
        board.erase(1);
        CHECK.same("nothing is joined", board.shorts(), 0);
    }

    /** "a pair of different nets, pads of both being joined" */
    private static void shortsOfPairs() {
        Coppertrace board = Boards.placed(false, 0, 0, 3, 0, 6, 0, 9, 0);
        for (int pin = 0; pin < 3; pin++) {
            board.setWire(pin, pin + 1, true);
        }
        board.track(0, 0, 0, 0, 4, false);
        board.track(2, 0, 6, 0, 4, false);
        board.setWire(1, 2, false);
        board.setWire(0, 1, false);
        board.setWire(2, 3, false);
        CHECK.same("two pairs", board.shorts(), 2);
        board.setWire(0, 2, true);
        board.setWire(1, 3, true);
        CHECK.same("both are the same pair now", board.shorts(), 1);
        board.lift(1);
        CHECK.same("one of them is left", board.shorts(), 1);
        board.lift(3);
        CHECK.same("an item is no pad", board.shorts(), 0);
    }

    /** Pads of two nets can be joined by copper that is poured, where an item of its net is over a pad. */
    private static void shortsByPouredCopper() {
        Coppertrace board = Boards.wired(false, 2, 5, 12, 5);
        board.track(0, 0, 10, 5, 3, false);
        board.setWire(0, 1, false);
        CHECK.same("the track is over one of them alone", board.shorts(), 0);
        CHECK.same("which is as drawn", board.isAsDrawn(), true);
        board.pour(0, 0, 0, 0, 19, 13);
        CHECK.same("poured copper joins it with the other one", board.shorts(), 1);
        CHECK.same("which is not as drawn", board.isAsDrawn(), false);
        both(board, 0, 1, true, "pads of two nets");
        CHECK.same("consistent all the same", board.isConsistent(), true);
    }

    private static void gapsFromNoneToAll() {
        Coppertrace board = Boards.placed(false, 0, 0, 2, 0, 4, 0);
        CHECK.same("none", board.gaps(), 0);
        board.setGap(0, 1);
        CHECK.same("less than their distance", board.gaps(), 0);
        board.setGap(0, 2);
        CHECK.same("just their distance", board.gaps(), 1);
        board.setGap(1, 2);
        CHECK.same("one pair more", board.gaps(), 2);
        board.setGap(2, 2);
        CHECK.same("no pair is counted twice", board.gaps(), 2);
        Coppertrace items = Boards.singles(2, false);
        items.setWire(0, 1, true);
        for (int item = 0; item < 150; item++) {
            items.via(item % 2, 5, 5);
        }
        CHECK.same("150 of one net", items.gaps(), 0);
        items.setWire(0, 1, false);
        CHECK.same("75 of each net", items.gaps(), 75 * 75);
    }

    private static void gapsOfOwnPart() {
        Coppertrace board = new Coppertrace();
        board.addPart(0, 6, true);
        board.place(0, 0, 0, 0);
        CHECK.same("next to each other, no gap", board.gaps(), 0);
        board.setGap(0, 1);
        CHECK.same("the first one and the next one", board.gaps(), 1);
        board.setGap(0, 2);
        CHECK.same("the first one and two", board.gaps(), 2);
        for (int pin = 1; pin < 6; pin++) {
            board.setGap(pin, 2);
        }
        CHECK.same("all", board.gaps(), 5 + 4);
        board.lift(0);
        CHECK.same("none is placed", board.gaps(), 0);
    }

    private static void airFromNoneToAll() {
        Coppertrace board = largest(false);
        CHECK.same("72 nets of one pin", board.airLength(), 0);
        for (int pin = 0; pin < 72; pin++) {
            board.setName(pin, 'N');
        }
        // Five in each part, two between parts of a row, two between the rows.
        CHECK.same("72 pins of one net", board.airLength(), 12 * 5 + 6 * 2 + 5 * 2);
        for (int part = 0; part < 12; part++) {
            board.lift(part);
        }
        CHECK.same("none is placed", board.airLength(), 0);
    }

    /** "the least sum of differences of columns and rows of two pads, one of each" */
    private static void airOfGroups() {
        Coppertrace board = Boards.wired(false, 0, 0, 19, 0, 10, 13);
        board.setWire(1, 2, true);
        CHECK.same("three groups", board.airLength(), 19 + 22);
        board.track(0, 0, 0, 0, 20, false);
        CHECK.same("two groups: from the nearer pad, not from the track", board.airLength(), 22);
        board.pour(0, 0, 0, 0, 19, 13);
        CHECK.same("poured copper joins none of them", board.airLength(), 22);
        CHECK.same("nor for place", board.place(2, 10, 12, 0), 21);
        board.place(2, 10, 13, 0);
        board.route(0, 2);
        CHECK.same("one group", board.airLength(), 0);
        board.erase(0);
        CHECK.same("two groups again", board.airLength() > 0, true);
    }

    /** "the least sum of lengths that join all groups" */
    private static void airAsATree() {
        Coppertrace board = Boards.wired(false, 10, 5, 0, 5, 19, 5, 10, 0, 10, 13);
        for (int pin = 1; pin < 4; pin++) {
            board.setWire(pin, pin + 1, true);
        }
        CHECK.same("from the middle to each side", board.airLength(), 10 + 9 + 5 + 8);
        board.lift(0);
        CHECK.same("without the middle", board.airLength(), 13 + 14 + 15);
    }

    private static void airBesidesOtherNets() {
        Coppertrace board = Boards.placed(false, 0, 0, 4, 0, 10, 0, 14, 0);
        board.setWire(0, 1, true);
        board.setWire(1, 2, true);
        board.setWire(2, 3, true);
        board.track(1, 0, 4, 0, 7, false);
        board.setWire(0, 1, false);
        board.setWire(1, 2, false);
        board.setWire(2, 3, false);
        board.setWire(0, 2, true);
        board.setWire(1, 3, true);
        // Pads of the other net are joined to each group, but count for it neither as a pad nor as a way.
        CHECK.same("each net from its own pads", board.airLength(), 10 + 10);
    }

    private static void shortestPath() {
        Coppertrace board = new Coppertrace();
        board.addPart(0, 2, false);
        board.place(0, 0, 0, 1);
        board.setWire(0, 1, true);
        CHECK.same("no step", board.path(1, 1), 0);
        CHECK.thrown("next to each other only", NONE, () -> board.path(0, 1));
        board.track(0, 0, 0, 0, 2, true);
        CHECK.same("one step", board.path(0, 1), 1);
        CHECK.same("one step back", board.path(1, 0), 1);
    }

    /** To and fro through all cells of both layers, each of them once. */
    private static void longestPath() {
        Coppertrace board = new Coppertrace();
        board.addPart(0, 2, false);
        board.setWire(0, 1, true);
        board.place(0, 0, 12, 1);
        for (int row = 12; row >= 0; row--) {
            board.track(0, 0, 0, row, 20, false);
            if (row > 0) {
                board.track(0, 0, row % 2 == 0 ? 19 : 0, row - 1, 2, true);
            }
        }
        for (int row = 0; row <= 13; row++) {
            board.track(0, 1, 0, row, 20, false);
            if (row < 13) {
                board.track(0, 1, row % 2 == 0 ? 0 : 19, row, 2, true);
            }
        }
        board.track(0, 0, 0, 13, 20, false);
        board.via(0, 19, 0);
        CHECK.thrown("all but the last via", NONE, () -> board.path(0, 1));
        board.via(0, 19, 13);
        CHECK.same("all 560 cells", board.path(0, 1), 559);
        CHECK.same("and back", board.path(1, 0), 559);
        board.track(0, 0, 0, 12, 2, true);
        CHECK.thrown("the shortest way besides the longest one", UNSUPPORTED, () -> board.path(0, 1));
        board.via(0, 10, 7);
        board.erase(55);
        CHECK.thrown("a short cut in the middle", UNSUPPORTED, () -> board.path(0, 1));
    }

    /** "if there are two ways or more, without going through a cell twice" */
    private static void pathsThatGoTwice() {
        Coppertrace board = Boards.wired(false, 2, 5, 4, 5);
        board.track(0, 0, 2, 5, 3, false);
        CHECK.same("one way", board.path(0, 1), 2);
        board.track(0, 0, 2, 5, 2, true);
        board.track(0, 0, 2, 6, 3, false);
        CHECK.same("a dead end", board.path(0, 1), 2);
        board.track(0, 0, 4, 5, 2, true);
        CHECK.thrown("two ways", UNSUPPORTED, () -> board.path(0, 1));
        board.erase(0);
        CHECK.same("the longer way alone", board.path(0, 1), 4);
        board.track(0, 0, 3, 5, 2, true);
        CHECK.same("a track across that ends beside", board.path(0, 1), 4);
        board.track(0, 0, 3, 5, 2, false);
        CHECK.thrown("two ways for a part of it", UNSUPPORTED, () -> board.path(0, 1));
    }

    private static void pathsBesideTheWay() {
        Coppertrace board = Boards.wired(false, 2, 5, 8, 5);
        board.track(0, 0, 2, 5, 7, false);
        board.via(0, 4, 5);
        board.track(0, 1, 4, 5, 4, true);
        CHECK.same("a way off by a via", board.path(0, 1), 6);
        board.track(0, 1, 4, 8, 3, false);
        board.track(0, 1, 6, 6, 3, true);
        board.track(0, 1, 4, 6, 3, false);
        CHECK.same("a ring behind one via", board.path(0, 1), 6);
        board.via(0, 4, 8);
        CHECK.same("a second via there", board.path(0, 1), 6);
        board.track(0, 0, 4, 5, 4, true);
        CHECK.same("a ring of both layers that leaves and comes back at one cell", board.path(0, 1), 6);
        board.track(0, 0, 4, 8, 3, false);
        board.track(0, 0, 6, 5, 4, true);
        CHECK.thrown("and one that comes back at another", UNSUPPORTED, () -> board.path(0, 1));
    }

    /** "by painting without poured copper" */
    private static void pathsAndPouredCopper() {
        Coppertrace board = Boards.wired(false, 2, 5, 6, 5);
        board.pour(0, 0, 0, 0, 19, 13);
        CHECK.same("joined by it", board.areJoined(0, 1), true);
        CHECK.thrown("but not so", NONE, () -> board.path(0, 1));
        board.track(0, 0, 2, 5, 5, false);
        CHECK.same("it is no second way", board.path(0, 1), 4);
    }

    /** "or one is not placed" */
    private static void pathsOfLiftedPads() {
        Coppertrace board = Boards.wired(false, 2, 5, 6, 5);
        board.track(0, 0, 2, 5, 5, false);
        board.lift(1);
        CHECK.thrown("to where a pad has been", NONE, () -> board.path(0, 1));
        CHECK.thrown("from where a pad has been", NONE, () -> board.path(1, 0));
        CHECK.same("not joined", board.areJoined(0, 1) || board.areJoinedByPaint(0, 1), false);
        CHECK.same("not joined the other way round", board.areJoined(1, 0) || board.areJoinedByPaint(1, 0), false);
        board.place(1, 6, 5, 3);
        CHECK.same("placed again", board.path(0, 1), 4);
    }

    /** "0 for fewer than two holes", "if there are more than 9 holes" */
    private static void holesFromNoneToNine() {
        Coppertrace board = Boards.singles(1, false);
        int[] due = {0, 0, 2, 4, 6, 8, 10, 12, 14, 16};
        for (int holes = 0; holes <= 9; holes++) {
            CHECK.same("holes: " + holes, board.drillWay(), due[holes]);
            board.via(0, 2 * holes, 3);
        }
        CHECK.thrown("ten holes", UNSUPPORTED, () -> board.drillWay());
        board.erase(4);
        CHECK.same("nine holes again", board.drillWay(), 18);
        board.addPart(0, 1, true);
        board.setWire(0, 1, true);
        board.place(1, 10, 10, 0);
        CHECK.thrown("a pad makes ten", UNSUPPORTED, () -> board.drillWay());
        board.lift(1);
        CHECK.same("and nine when it is lifted", board.drillWay(), 18);
        Coppertrace pads = new Coppertrace();
        pads.addPart(0, 6, true);
        pads.addPart(0, 3, true);
        pads.place(0, 0, 0, 0);
        pads.place(1, 0, 13, 0);
        CHECK.same("nine pads", pads.drillWay(), 5 + 13 + 2);
    }

    private static void holesThatAreNone() {
        Coppertrace board = new Coppertrace();
        board.addPart(0, 6, false);
        board.addPart(0, 6, true);
        board.place(0, 0, 0, 0);
        board.track(0, 1, 0, 0, 20, false);
        board.pour(0, 1, 0, 0, 19, 13);
        CHECK.same("surface pads, tracks, copper, a part that is not placed", board.drillWay(), 0);
        board.place(1, 0, 5, 0);
        CHECK.same("six in a row", board.drillWay(), 5);
    }

    private static void holesFarAndNear() {
        Coppertrace board = Boards.singles(1, false);
        board.via(0, 0, 0);
        board.via(0, 19, 13);
        CHECK.same("from corner to corner", board.drillWay(), 32);
        board.via(0, 0, 0);
        CHECK.same("two in one place", board.drillWay(), 32);
        board.via(0, 19, 0);
        board.via(0, 0, 13);
        CHECK.same("all corners", board.drillWay(), 13 + 19 + 13);
        board.via(0, 10, 7);
        // From (0, 0) to (0, 13), (10, 7), (19, 13) and (19, 0): those in the row 13 are nearer to the middle.
        CHECK.same("and the middle", board.drillWay(), 13 + 16 + 15 + 13);
    }

    /** "Returns the sum of their cells, less 1 for each." */
    private static void lengthFromNoneToAll() {
        Coppertrace board = Boards.singles(1, false);
        CHECK.same("none", board.trackLength(), 0L);
        board.via(0, 0, 0);
        CHECK.same("vias are no tracks", board.trackLength(), 0L);
        board.track(0, 0, 0, 0, 2, true);
        CHECK.same("the least one", board.trackLength(), 1L);
        for (int item = 2; item < 150; item++) {
            board.track(0, 1, 0, 7, 20, false);
        }
        CHECK.same("the most", board.trackLength(), 1L + 148 * 19);
        board.erase(149);
        CHECK.same("less the last one", board.trackLength(), 1L + 147 * 19);
    }

    private static void shareFromNoneToAll() {
        Coppertrace board = Boards.singles(12, false);
        CHECK.thrown("nets of one pin alone", ARITHMETIC, () -> board.joinedShare());
        for (int net = 0; net < 6; net++) {
            board.setWire(2 * net, 2 * net + 1, true);
            CHECK.same("none is placed, none is open", board.joinedShare(), 1f);
        }
        for (int pin = 0; pin < 12; pin++) {
            board.place(pin, pin % 2 * 5, pin / 2 * 2, 0);
        }
        for (int net = 0; net < 6; net++) {
            CHECK.same("joined are " + net, board.joinedShare(), (float) net / 6f);
            board.route(2 * net, 2 * net + 1);
        }
        CHECK.same("all are joined", board.joinedShare(), 1f);
    }

    /** "the share of the nets with two pins or more" */
    private static void shareOfNets() {
        Coppertrace board = Boards.placed(false, 0, 0, 5, 0, 10, 0, 15, 0);
        board.setWire(0, 1, true);
        CHECK.same("one net of two, open", board.joinedShare(), 0f);
        board.route(0, 1);
        CHECK.same("nets of one pin are aside", board.joinedShare(), 1f);
        board.setWire(1, 2, true);
        CHECK.same("one net of three, open", board.joinedShare(), 0f);
        board.setWire(1, 2, false);
        board.setWire(2, 3, true);
        CHECK.same("one of two", board.joinedShare(), 0.5f);
        board.setWire(0, 1, false);
        board.setWire(2, 3, false);
        CHECK.thrown("none again", ARITHMETIC, () -> board.joinedShare());
    }

    /** "the number of pins divided by that of nets" */
    private static void meanFromOneToAll() {
        Coppertrace board = largest(false);
        CHECK.same("72 nets", board.meanPins(), 1.0);
        for (int pin = 1; pin < 72; pin++) {
            board.setWire(0, pin, true);
            CHECK.same("nets: " + (72 - pin), board.meanPins(), 72.0 / (72.0 - pin));
        }
        Coppertrace one = Boards.singles(1, true);
        CHECK.same("one pin", one.meanPins(), 1.0);
        CHECK.thrown("no pin", ARITHMETIC, () -> new Coppertrace().meanPins());
    }

    /** "two placed pads are joined just if they are of one net" */
    private static void asDrawnOrNot() {
        Coppertrace board = Boards.singles(3, false);
        board.setWire(0, 1, true);
        CHECK.same("none is placed", board.isAsDrawn(), true);
        board.place(0, 2, 5, 0);
        CHECK.same("one is placed", board.isAsDrawn(), true);
        board.place(1, 6, 5, 0);
        CHECK.same("both are, and are not joined", board.isAsDrawn(), false);
        board.route(0, 1);
        CHECK.same("both are joined", board.isAsDrawn(), true);
        board.place(2, 10, 5, 0);
        CHECK.same("another one, of another net", board.isAsDrawn(), true);
        board.setWire(1, 2, true);
        CHECK.same("of the same net", board.isAsDrawn(), false);
        board.route(1, 2);
        CHECK.same("which is joined", board.isAsDrawn(), true);
        board.setWire(0, 1, false);
        board.setWire(1, 2, false);
        CHECK.same("joined, but not drawn", board.isAsDrawn(), false);
        board.erase(0);
        board.erase(1);
        CHECK.same("neither", board.isAsDrawn(), true);
    }

    /** Twelve parts, four areas, 150 items: both ways tell the same of all of them. */
    private static void consistentWhenFull() {
        Coppertrace board = largest(true);
        for (int pin = 0; pin < 72; pin++) {
            board.setName(pin, (char) ('a' + pin % 5));
        }
        board.pour(0, 0, 0, 0, 19, 13);
        board.pour(1, 1, 0, 0, 19, 13);
        board.pour(2, 0, 5, 3, 19, 13);
        board.pour(3, 1, 0, 3, 14, 13);
        CHECK.same("before", board.isConsistent(), true);
        board.routeAll(6);
        CHECK.same("behind the rounds", board.isConsistent(), true);
        CHECK.same("which have used the items up, or nearly", board.items() + board.ripped() > 140, true);
        board.setGap(70, 1);
        for (int item = board.items(); item < 150; item++) {
            tryVia(board, 71, item % 20, item % 14);
        }
        CHECK.same("with more items", board.isConsistent(), true);
        for (int pin = 0; pin < 72; pin += 7) {
            board.setName(pin, 'Q');
        }
        CHECK.same("with shorts", board.isConsistent() && board.shorts() > 0, true);
        for (int pin = 1; pin < 72; pin++) {
            CHECK.same("both ways", board.areJoined(0, pin), board.areJoinedByPaint(0, pin));
        }
    }

    private static void tryVia(Coppertrace board, int pin, int column, int row) {
        try {
            board.via(pin, column, row);
        } catch (UnsupportedOperationException | IllegalStateException e) {
            // The board is full there.
            return;
        }
    }

    private static void lastCallOfAll() {
        Coppertrace board = Boards.wired(true, 0, 0, 19, 13);
        for (int call = 6; call < 512; call++) {
            CHECK.same("air in the call " + call, board.airLength(), 32);
        }
        CHECK.same("the last of 512 calls", board.isConsistent(), true);
    }
}
