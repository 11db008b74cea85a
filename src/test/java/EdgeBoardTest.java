/**
 * The edges of the promises 10 to 17 and of the terms "Board", "Items" and "Poured copper": the corners
 * of the board, distances just as great as a gap and greater by one, the last part, item and area.
 */
public final class EdgeBoardTest {
    private static final Class<IllegalArgumentException> ILLEGAL = IllegalArgumentException.class;
    private static final Class<UnsupportedOperationException> UNSUPPORTED = UnsupportedOperationException.class;
    private static final Class<java.util.NoSuchElementException> NONE = java.util.NoSuchElementException.class;
    private static final Check CHECK = new Check("EdgeBoardTest");
    /** Columns and rows of the corners. */
    private static final int[][] CORNERS = {{0, 0}, {19, 0}, {0, 13}, {19, 13}};

    public static void main(String[] args) {
        numbersOfCells();
        padsOfEachTurn();
        padsOffTheBoard();
        onePadFitsInCorners();
        padsAndPadsOfOtherParts();
        padsAndLayersAside();
        padsAndOwnOldPads();
        padsAndTracks();
        padsAndVias();
        padsOfSeveralNets();
        refusedPartStays();
        placeTellsTheNewAir();
        liftedParts();
        gapsOfANet();
        gapsAtTheEdge();
        lengthsOfTracks();
        tracksAtTheEdges();
        tracksAndPads();
        tracksAndTracks();
        tracksAndVias();
        tracksOfBothLayers();
        viasInCorners();
        viasAndVias();
        netsOfItemsAsNow();
        lastItem();
        lastItemStays();
        itemsOfSearchesCount();
        erasedItems();
        lockedItems();
        smallestAreas();
        largestAreas();
        fourAreas();
        lastCellOfTheLastArea();
        firstCellOfAreas();
        pouringRoundPads();
        pouringRoundEarlierAreas();
        pouringInBothLayers();
        System.exit(CHECK.end());
    }

    private static int far(int column, int row) {
        return Math.max(Math.abs(column), Math.abs(row));
    }

    /** The call must be refused, or not be, as is due. */
    private static void canBe(String what, boolean isDue, Check.Call call) {
        boolean was;
        try {
            call.now();
            was = true;
        } catch (UnsupportedOperationException e) {
            was = false;
        }
        CHECK.same(what, was, isDue);
    }

    /** "a cell has the number 280 times the layer plus 20 times the row plus the column" */
    private static void numbersOfCells() {
        int[] due = {0, 19, 260, 279};
        for (int corner = 0; corner < 4; corner++) {
            Coppertrace board = Boards.singles(1, true);
            board.place(0, CORNERS[corner][0], CORNERS[corner][1], 0);
            CHECK.same("layer 0", board.netAt(due[corner]), 0);
            CHECK.same("layer 1", board.netAt(280 + due[corner]), 0);
        }
    }

    /** "i columns to the right, i rows up, i columns to the left, or i rows down; up is to greater rows" */
    private static void padsOfEachTurn() {
        int[] steps = {1, 20, -1, -20};
        int[][] last = {{14, 13}, {19, 8}, {5, 13}, {19, 5}};
        for (int turn = 0; turn < 4; turn++) {
            Coppertrace board = new Coppertrace();
            board.addPart(0, 6, true);
            board.place(0, last[turn][0], last[turn][1], turn);
            for (int pin = 0; pin < 6; pin++) {
                int cell = 20 * last[turn][1] + last[turn][0] + pin * steps[turn];
                CHECK.same("pad " + pin + " of the turn " + turn, board.netAt(cell), pin);
                CHECK.same("pad " + pin + " of the turn " + turn + ", layer 1", board.netAt(280 + cell), pin);
            }
        }
    }

    /** "A part is placed only if all of its pads are on the board" */
    private static void padsOffTheBoard() {
        for (int pins = 2; pins <= 6; pins++) {
            int size = pins;
            Coppertrace board = new Coppertrace();
            board.addPart(0, pins, false);
            canBe("right", true, () -> board.place(0, 20 - size, 13, 0));
            canBe("right by one more", false, () -> board.place(0, 21 - size, 13, 0));
            canBe("up", true, () -> board.place(0, 19, 14 - size, 1));
            canBe("up by one more", false, () -> board.place(0, 19, 15 - size, 1));
            canBe("left", true, () -> board.place(0, size - 1, 0, 2));
            canBe("left by one more", false, () -> board.place(0, size - 2, 0, 2));
            canBe("down", true, () -> board.place(0, 0, size - 1, 3));
            canBe("down by one more", false, () -> board.place(0, 0, size - 2, 3));
        }
    }

    private static void onePadFitsInCorners() {
        Coppertrace board = Boards.singles(1, true);
        for (int[] corner : CORNERS) {
            for (int turn = 0; turn < 4; turn++) {
                CHECK.same("a corner with turn " + turn, board.place(0, corner[0], corner[1], turn), 0);
            }
        }
    }

    /** "none is nearer than 2 to a pad of another part, layers and gaps aside" */
    private static void padsAndPadsOfOtherParts() {
        for (int gap = 0; gap <= 2; gap++) {
            Coppertrace board = Boards.placed(false, 10, 7);
            board.addPart(1, 1, false);
            board.setGap(0, gap);
            board.setGap(1, gap);
            for (int right = -3; right <= 3; right++) {
                for (int up = -3; up <= 3; up++) {
                    int column = 10 + right;
                    int row = 7 + up;
                    canBe("a pad off by " + right + ", " + up, far(right, up) >= 2,
                            () -> board.place(1, column, row, 0));
                    board.lift(1);
                }
            }
        }
    }

    private static void padsAndLayersAside() {
        Coppertrace board = Boards.placed(false, 10, 7);
        board.addPart(0, 1, true);
        canBe("a pad that goes through at 1", false, () -> board.place(1, 11, 8, 0));
        canBe("a pad that goes through at 2", true, () -> board.place(1, 12, 8, 0));
        canBe("a surface pad by it at 1", false, () -> board.place(0, 11, 8, 0));
        board.setWire(0, 1, true);
        canBe("of one net too", false, () -> board.place(0, 11, 8, 0));
        board.lift(1);
        canBe("by one that was lifted", true, () -> board.place(0, 11, 8, 0));
    }

    /** "Places a part, in place of where it was." */
    private static void padsAndOwnOldPads() {
        Coppertrace board = new Coppertrace();
        board.addPart(0, 3, true);
        canBe("at first", true, () -> board.place(0, 5, 5, 0));
        canBe("the same again", true, () -> board.place(0, 5, 5, 0));
        canBe("one to the right", true, () -> board.place(0, 6, 5, 0));
        CHECK.same("where it was", board.netAt(106), 0);
        CHECK.thrown("and is not any more", NONE, () -> board.netAt(105));
        canBe("turned about", true, () -> board.place(0, 6, 5, 2));
        CHECK.same("its last pad", board.netAt(104), 2);
        CHECK.thrown("which was elsewhere", NONE, () -> board.netAt(108));
    }

    /** "none is too near to an item of another net" */
    private static void padsAndTracks() {
        for (int gap = 0; gap <= 2; gap++) {
            for (int owner = 0; owner <= 1; owner++) {
                Coppertrace board = Boards.singles(2, false);
                board.setGap(owner, gap);
                board.track(1, 0, 9, 7, 3, false);
                for (int up = -3; up <= 3; up++) {
                    int row = 7 + up;
                    canBe("above its middle by " + up, Math.abs(up) > gap, () -> board.place(0, 10, row, 0));
                    board.lift(0);
                }
                for (int right = 1; right <= 3; right++) {
                    int column = 11 + right;
                    int row = 7 + right;
                    canBe("behind its end by " + right, right > gap, () -> board.place(0, column, 7, 0));
                    canBe("slantwise by " + right, right > gap, () -> board.place(0, column, row, 0));
                    board.lift(0);
                }
            }
        }
    }

    private static void padsAndVias() {
        Coppertrace board = Boards.singles(3, true);
        board.addPart(0, 1, false);
        board.via(2, 10, 7);
        board.track(2, 1, 3, 3, 5, false);
        canBe("a surface pad on a via", false, () -> board.place(3, 10, 7, 0));
        canBe("a pad that goes through on a via", false, () -> board.place(0, 10, 7, 0));
        canBe("next to it without a gap", true, () -> board.place(0, 11, 7, 0));
        canBe("a surface pad over a track of the layer 1", true, () -> board.place(3, 4, 3, 0));
        canBe("a pad that goes through, on it", false, () -> board.place(1, 6, 3, 0));
        board.setWire(1, 2, true);
        canBe("of one net", true, () -> board.place(1, 6, 3, 0));
    }

    private static void padsOfSeveralNets() {
        Coppertrace board = new Coppertrace();
        board.addPart(0, 3, false);
        board.addPart(0, 1, false);
        board.setWire(0, 3, true);
        board.track(3, 0, 5, 5, 2, true);
        canBe("the pad of its net is on it", true, () -> board.place(0, 5, 5, 0));
        canBe("the pad of another net is on it", false, () -> board.place(0, 4, 5, 0));
        canBe("the last pad is on it", false, () -> board.place(0, 3, 6, 0));
        board.erase(0);
        canBe("it is gone", true, () -> board.place(0, 3, 6, 0));
    }

    private static void refusedPartStays() {
        Coppertrace board = Boards.placed(false, 10, 7, 2, 2);
        canBe("on the other part", false, () -> board.place(0, 2, 2, 1));
        CHECK.same("it is where it was", board.netAt(150), 0);
        CHECK.same("the other one too", board.netAt(42), 1);
    }

    /** "Returns the air lengths of all nets together, then." */
    private static void placeTellsTheNewAir() {
        Coppertrace board = Boards.singles(4, false);
        board.setWire(0, 1, true);
        board.setWire(2, 3, true);
        CHECK.same("one pad", board.place(0, 0, 0, 0), 0);
        CHECK.same("from corner to corner", board.place(1, 19, 13, 0), 32);
        CHECK.same("a pad of another net", board.place(2, 0, 13, 0), 32);
        CHECK.same("both nets", board.place(3, 19, 0, 0), 64);
        CHECK.same("at the least distance", board.place(1, 2, 0, 0), 34);
    }

    /** "Returns whether it was placed." */
    private static void liftedParts() {
        Coppertrace board = Boards.singles(12, true);
        for (int part = 0; part < 12; part++) {
            CHECK.same("the part " + part + " before", board.lift(part), false);
            board.place(part, part, part % 2 == 0 ? 0 : 13, 0);
        }
        CHECK.same("all twelve are holes", board.netAt(280 + 13 * 20 + 11), 11);
        for (int part = 0; part < 12; part++) {
            CHECK.same("the part " + part, board.lift(part), true);
            CHECK.same("the part " + part + " again", board.lift(part), false);
        }
        CHECK.same("none is left", board.drillWay(), 0);
    }

    /** "A net has the greatest gap of its pins, 0 at first." */
    private static void gapsOfANet() {
        Coppertrace board = Boards.singles(4, false);
        board.setWire(0, 1, true);
        board.setWire(1, 2, true);
        board.track(0, 0, 0, 0, 5, false);
        board.track(3, 0, 0, 2, 5, false);
        CHECK.same("0 at first", board.gaps(), 0);
        board.setGap(1, 2);
        CHECK.same("that of the middle pin", board.gaps(), 1);
        board.setGap(2, 1);
        CHECK.same("the greatest, not the last one", board.gaps(), 1);
        board.setWire(0, 1, false);
        CHECK.same("without the pin that had it", board.gaps(), 0);
        board.setWire(0, 1, true);
        CHECK.same("with it again", board.gaps(), 1);
        board.setWire(0, 3, true);
        CHECK.same("of one net", board.gaps(), 0);
        board.setWire(0, 3, false);
        board.setGap(1, 0);
        board.setGap(2, 0);
        CHECK.same("and 0 again", board.gaps(), 0);
        board.setGap(3, 2);
        CHECK.same("that of the other net", board.gaps(), 1);
    }

    /** "the gap, 0 to 2" */
    private static void gapsAtTheEdge() {
        Coppertrace board = Boards.singles(2, false);
        CHECK.same("0 at first", board.setGap(0, 0), 0);
        CHECK.same("0 set", board.setGap(0, 1), 0);
        CHECK.same("1 set", board.setGap(0, 2), 1);
        CHECK.same("2 set", board.setGap(0, 2), 2);
        CHECK.same("the other one is 0", board.setGap(1, 0), 0);
    }

    /** "how many cells it has, 2 to 20" */
    private static void lengthsOfTracks() {
        Coppertrace board = Boards.singles(1, false);
        for (int length = 2; length <= 20; length++) {
            int item = board.track(0, 1, 20 - length, 13, length, false);
            CHECK.same("its first cell", board.cellOf(item, 0), 560 - length);
            CHECK.same("its last cell", board.cellOf(item, length - 1), 559);
            CHECK.thrown("no cell behind it", NONE, () -> board.cellOf(item, 20));
        }
        for (int length = 2; length <= 14; length++) {
            int item = board.track(0, 0, 19, 14 - length, length, true);
            CHECK.same("its lowest cell", board.cellOf(item, 0), 299 - 20 * length);
            CHECK.same("its highest cell", board.cellOf(item, length - 1), 279);
        }
        CHECK.same("their lengths", board.trackLength(), 19 * 20 / 2 + 13 * 14 / 2L);
    }

    /** "there is no such layer, column, row or length, or it leaves the board" */
    private static void tracksAtTheEdges() {
        Coppertrace board = Boards.singles(1, false);
        for (int length = 3; length <= 20; length++) {
            int more = length;
            board.track(0, 0, 20 - length, 0, length, false);
            CHECK.thrown("one column more", ILLEGAL, () -> board.track(0, 0, 21 - more, 0, more, false));
        }
        for (int length = 3; length <= 14; length++) {
            int more = length;
            board.track(0, 1, 0, 14 - length, length, true);
            CHECK.thrown("one row more", ILLEGAL, () -> board.track(0, 1, 0, 15 - more, more, true));
        }
        CHECK.same("all of them", board.items(), 18 + 12);
    }

    /** "no farther from each other than the greater one of the gaps of both nets" */
    private static void tracksAndPads() {
        for (int gap = 0; gap <= 2; gap++) {
            for (int owner = 0; owner <= 1; owner++) {
                Coppertrace board = Boards.placed(true, 10, 7);
                board.addPart(0, 1, false);
                board.setGap(owner, gap);
                for (int right = -5; right <= 4; right++) {
                    for (int up = -3; up <= 3; up++) {
                        int column = 10 + right;
                        int row = 7 + up;
                        int layer = up > 0 ? 1 : 0;
                        int away = Math.min(far(right, up), far(right + 1, up));
                        canBe("a track off by " + right + ", " + up, away > gap,
                                () -> board.track(1, layer, column, row, 2, false));
                    }
                }
            }
        }
    }

    private static void tracksAndTracks() {
        for (int gap = 0; gap <= 2; gap++) {
            for (int owner = 0; owner <= 1; owner++) {
                for (int away = 0; away <= 3; away++) {
                    int by = away;
                    Coppertrace board = Boards.singles(2, false);
                    board.setGap(owner, gap);
                    board.track(0, 1, 8, 5, 4, false);
                    canBe("above it", away > gap, () -> board.track(1, 1, 0, 5 + by, 20, false));
                    canBe("behind it", away > gap, () -> board.track(1, 1, 11 + by, 0, 14, true));
                    canBe("ahead of it", away > gap, () -> board.track(1, 1, 8 - by, 0, 14, true));
                    canBe("ending slantwise by it", away > gap, () -> board.track(1, 1, 7 - by, 5 - by, 2, false));
                    canBe("in the other layer", true, () -> board.track(1, 0, 8, 5, 4, false));
                }
            }
        }
    }

    private static void tracksAndVias() {
        for (int layer = 0; layer <= 1; layer++) {
            int in = layer;
            Coppertrace board = Boards.singles(2, false);
            board.via(0, 19, 13);
            canBe("its last cell in a via", false, () -> board.track(1, in, 18, 13, 2, false));
            canBe("its highest cell in a via", false, () -> board.track(1, in, 19, 12, 2, true));
            canBe("next to a via without a gap", true, () -> board.track(1, in, 18, 12, 2, true));
            board.setGap(1, 1);
            canBe("slantwise next to a via with a gap", false, () -> board.track(1, in, 18, 11, 2, true));
            canBe("2 from a via with a gap of 1", true, () -> board.track(1, in, 17, 12, 2, true));
        }
    }

    private static void tracksOfBothLayers() {
        Coppertrace board = Boards.singles(2, false);
        board.setGap(0, 2);
        canBe("the last row of the layer 0", true, () -> board.track(0, 0, 0, 13, 20, false));
        canBe("the first row of the layer 1", true, () -> board.track(1, 1, 0, 0, 20, false));
        canBe("the same row of the layer 1", true, () -> board.track(1, 1, 0, 13, 20, false));
        CHECK.same("layers do not mix", board.gaps(), 0);
    }

    private static void viasInCorners() {
        Coppertrace board = Boards.singles(1, false);
        int[] due = {0, 19, 260, 279};
        for (int corner = 0; corner < 4; corner++) {
            CHECK.same("its number", board.via(0, CORNERS[corner][0], CORNERS[corner][1]), corner);
            CHECK.same("its lower cell", board.cellOf(corner, 0), due[corner]);
            CHECK.same("its upper cell", board.cellOf(corner, 1), 280 + due[corner]);
        }
    }

    private static void viasAndVias() {
        for (int gap = 0; gap <= 2; gap++) {
            for (int owner = 0; owner <= 1; owner++) {
                Coppertrace board = Boards.singles(2, false);
                board.setGap(owner, gap);
                board.via(0, 10, 7);
                for (int right = -3; right <= 3; right++) {
                    for (int up = -3; up <= 3; up++) {
                        int column = 10 + right;
                        int row = 7 + up;
                        canBe("a via off by " + right + ", " + up, far(right, up) > gap,
                                () -> board.via(1, column, row));
                    }
                }
            }
        }
    }

    /** "Each one belongs to a pin, and to the net of this now; so do pads." */
    private static void netsOfItemsAsNow() {
        Coppertrace board = Boards.placed(false, 2, 2, 6, 2);
        board.setWire(0, 1, true);
        board.track(1, 0, 2, 2, 5, false);
        CHECK.same("the item's net", board.netAt(43), 0);
        CHECK.same("the pad's net", board.netAt(46), 0);
        board.setWire(0, 1, false);
        CHECK.same("the item's net now", board.netAt(43), 1);
        CHECK.same("the pad's net now", board.netAt(46), 1);
        CHECK.same("the item is too near to the other pad now", board.gaps(), 1);
        board.setName(0, 'n');
        board.setName(1, 'n');
        CHECK.same("and is of its net again", board.gaps(), 0);
    }

    /** "at most 150 are made", "the number of the item" */
    private static void lastItem() {
        Coppertrace board = Boards.singles(1, false);
        for (int item = 0; item < 150; item++) {
            int number = item % 2 == 0 ? board.via(0, item % 20, item % 14) : board.track(0, 1, 0, 0, 2, true);
            CHECK.same("the number", number, item);
        }
        CHECK.same("all are there", board.items(), 150);
        CHECK.same("what the last one is", board.kindOf(149), 't');
        CHECK.thrown("one more", IllegalStateException.class, () -> board.via(0, 0, 0));
        CHECK.same("the last one is taken away", board.erase(149), true);
        CHECK.thrown("but its number is used", IllegalStateException.class, () -> board.via(0, 0, 0));
    }

    /** Looking for room for a part leaves the last of 150 items where it is. */
    private static void lastItemStays() {
        Coppertrace board = Boards.singles(2, true);
        for (int item = 0; item < 150; item++) {
            board.via(0, 10, 7);
        }
        canBe("a part elsewhere", true, () -> board.place(0, 3, 3, 0));
        canBe("a part in their place", false, () -> board.place(1, 10, 7, 0));
        CHECK.same("the last item", Boards.told(board, 149), "v 150 430");
        board.pour(1, 0, 0, 0, 19, 13);
        board.place(1, 15, 3, 0);
        CHECK.same("no fault", board.isConsistent(), true);
        CHECK.same("the last item still", Boards.told(board, 149), "v 150 430");
    }

    private static void itemsOfSearchesCount() {
        Coppertrace board = Boards.wired(false, 2, 5, 6, 5);
        Boards.useUp(board, 0, 15, 1, 2);
        board.route(0, 1);
        CHECK.same("a searched one has a number too", board.via(0, 15, 1), 149);
        CHECK.thrown("one more", IllegalStateException.class, () -> board.track(0, 0, 2, 5, 2, true));
    }

    /** "Returns whether it was there." */
    private static void erasedItems() {
        Coppertrace board = Boards.singles(2, false);
        board.track(0, 0, 5, 5, 3, false);
        board.via(0, 5, 5);
        canBe("in its place", false, () -> board.via(1, 7, 5));
        CHECK.same("the first one", board.erase(0), true);
        CHECK.same("the first one again", board.erase(0), false);
        canBe("in its place then", true, () -> board.via(1, 7, 5));
        CHECK.same("the last one", board.erase(2), true);
        CHECK.same("the one between", board.kindOf(1), 'v');
        CHECK.same("numbers go on", board.via(1, 7, 5), 3);
    }

    /** "Returns whether it was." */
    private static void lockedItems() {
        Coppertrace board = Boards.singles(1, false);
        for (int item = 0; item < 150; item++) {
            board.via(0, 0, 0);
        }
        CHECK.same("the last one was not", board.setLocked(149, true), false);
        CHECK.same("and is", board.setLocked(149, true), true);
        CHECK.same("the first one is not", board.setLocked(0, false), false);
        CHECK.same("unlocked", board.setLocked(149, false), true);
        CHECK.same("and is not any more", board.setLocked(149, false), false);
        board.setLocked(149, true);
        CHECK.same("a locked one is erased", board.erase(149), true);
    }

    private static void smallestAreas() {
        for (int layer = 0; layer <= 1; layer++) {
            for (int[] corner : CORNERS) {
                Coppertrace board = Boards.singles(1, false);
                board.pour(0, layer, corner[0], corner[1], corner[0], corner[1]);
                CHECK.same("dropped", board.poured(0), 0);
                board.via(0, corner[0], corner[1]);
                CHECK.same("one cell", board.poured(0), 1);
                CHECK.same("one island", board.islands(0), 1);
            }
        }
        Coppertrace lines = Boards.singles(1, true);
        lines.place(0, 7, 7, 0);
        lines.pour(0, 0, 0, 7, 19, 7);
        lines.pour(0, 1, 7, 0, 7, 13);
        CHECK.same("one row", lines.poured(0), 20);
        CHECK.same("one column", lines.poured(1), 14);
    }

    private static void largestAreas() {
        Coppertrace board = Boards.singles(1, true);
        board.place(0, 19, 13, 0);
        board.pour(0, 0, 0, 0, 19, 13);
        board.pour(0, 1, 0, 0, 19, 13);
        CHECK.same("all of the layer 0", board.poured(0), 280);
        CHECK.same("all of the layer 1", board.poured(1), 280);
        CHECK.same("its first cell", board.netAt(0), 0);
        CHECK.same("its last cell", board.netAt(540), 0);
    }

    /** "At most 4 areas are told, numbered from 0" */
    private static void fourAreas() {
        Coppertrace board = Boards.singles(1, true);
        board.place(0, 3, 0, 0);
        for (int area = 0; area < 4; area++) {
            CHECK.same("the number", board.pour(0, 0, 0, 0, 3 + area, 0), area);
        }
        for (int area = 0; area < 4; area++) {
            CHECK.same("its cells", board.poured(area), 4 + area);
            CHECK.same("its island", board.islands(area), 1);
        }
        CHECK.thrown("a fifth one", IllegalStateException.class, () -> board.pour(0, 0, 0, 0, 3, 0));
    }

    private static void lastCellOfTheLastArea() {
        Coppertrace board = Boards.singles(2, true);
        for (int area = 0; area < 3; area++) {
            board.pour(0, 1, 0, 0, 19, 13);
        }
        board.pour(0, 1, 19, 13, 19, 13);
        board.place(0, 19, 13, 0);
        CHECK.same("one cell", board.poured(3), 1);
        CHECK.same("one island", board.islands(3), 1);
        CHECK.same("a layer", board.poured(2), 280);
        CHECK.same("joined and painted", board.areJoined(0, 0) && board.areJoinedByPaint(0, 0), true);
        Coppertrace layers = Boards.wired(true, 0, 0, 19, 13);
        for (int area = 0; area < 4; area++) {
            layers.pour(0, area % 2, 0, 0, 19, 13);
        }
        CHECK.same("the fourth one is a whole layer", layers.poured(3), 280);
        CHECK.same("which joins", layers.areJoined(0, 1) && layers.areJoinedByPaint(0, 1), true);
    }

    /** The first cell of a layer is none of an earlier area, of another layer or of what has been. */
    private static void firstCellOfAreas() {
        Coppertrace board = Boards.placed(false, 0, 0);
        board.addPart(0, 1, false);
        board.pour(0, 0, 0, 0, 5, 5);
        board.pour(1, 1, 0, 0, 5, 5);
        board.pour(0, 1, 0, 0, 5, 5);
        CHECK.same("with a pad in the first cell", board.poured(0), 36);
        CHECK.same("below a pad of another net", board.poured(1), 0);
        CHECK.same("below a pad of its net", board.poured(2), 0);
        board.lift(0);
        CHECK.same("where a pad has been", board.poured(0), 0);
        CHECK.thrown("it has none", NONE, () -> board.netAt(0));
        Coppertrace first = Boards.placed(false, 1, 0, 19, 13);
        first.pour(0, 0, 0, 0, 1, 0);
        first.pour(1, 0, 0, 0, 19, 13);
        CHECK.same("an earlier area with the first cell", first.poured(0), 2);
        CHECK.same("closes it for a later one", first.poured(1), 278);
    }

    /** "all cells [..] from which no pad and no item of another net [..] is too near" */
    private static void pouringRoundPads() {
        for (int gap = 0; gap <= 2; gap++) {
            for (int owner = 0; owner <= 1; owner++) {
                Coppertrace board = Boards.placed(false, 0, 0, 10, 7);
                board.setGap(owner, gap);
                board.pour(0, 0, 0, 0, 19, 13);
                board.pour(0, 1, 0, 0, 19, 13);
                board.via(0, 0, 0);
                CHECK.same("round a pad", board.poured(0), 280 - (2 * gap + 1) * (2 * gap + 1));
                CHECK.same("not in the other layer", board.poured(1), 280);
                board.lift(1);
                board.track(1, 1, 19, 12, 2, true);
                CHECK.same("round a track in a corner", board.poured(1), 280 - (gap + 1) * (gap + 2));
                board.via(1, 10, 13);
                CHECK.same("round a via at an edge", board.poured(0), 280 - (2 * gap + 1) * (gap + 1));
            }
        }
    }

    /** "no poured cell of an earlier area of another net, dropped ones aside" */
    private static void pouringRoundEarlierAreas() {
        for (int gap = 0; gap <= 2; gap++) {
            for (int owner = 0; owner <= 1; owner++) {
                Coppertrace board = Boards.placed(false, 3, 3, 19, 13);
                board.setGap(owner, gap);
                board.pour(0, 0, 0, 0, 9, 13);
                board.pour(1, 0, 0, 0, 19, 13);
                CHECK.same("the first one", board.poured(0), 140);
                CHECK.same("behind the first one", board.poured(1), 14 * (10 - gap));
                board.lift(0);
                CHECK.same("dropped", board.poured(0), 0);
                CHECK.same("as if it were not told", board.poured(1), 280);
            }
        }
    }

    private static void pouringInBothLayers() {
        Coppertrace board = Boards.placed(false, 3, 3);
        board.addPart(0, 1, false);
        board.track(1, 1, 3, 3, 2, true);
        board.setGap(1, 2);
        board.pour(0, 0, 0, 0, 19, 13);
        board.pour(1, 1, 0, 0, 19, 13);
        CHECK.same("the layer 0", board.poured(0), 280);
        CHECK.same("the layer 1, whatever the other one has", board.poured(1), 280);
    }
}
