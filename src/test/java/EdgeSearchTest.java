import java.util.NoSuchElementException;

/**
 * The edges of the promises 18 to 21 and of the terms "Searching" and "Rip and try again": the shortest
 * and the longest ways, the sides of the board, distances at a gap, rounds and items that are used up.
 */
public final class EdgeSearchTest {
    private static final Class<NoSuchElementException> NONE = NoSuchElementException.class;
    private static final Class<IllegalStateException> STATE = IllegalStateException.class;
    private static final Class<UnsupportedOperationException> UNSUPPORTED = UnsupportedOperationException.class;
    private static final Check CHECK = new Check("EdgeSearchTest");

    public static void main(String[] args) {
        shortestWay();
        wayOfOneVia();
        longestStraightWay();
        shorterWayBehindALongerOne();
        fromCornerToCorner();
        noWayOverTheSides();
        noWayFromLayerToLayerByNumber();
        alongTheSides();
        tollsOfStepsAndLayers();
        nearTheWay();
        nearTheFirstPad();
        nearTheSides();
        nearTheEnd();
        nearTheBeginning();
        nearALayerChange();
        nearALayerChangeAtTheBeginning();
        nearALayerChangeAtTheEnd();
        nearInItsLayerOnly();
        lowestCellFirst();
        fromEveryCellThatIsJoined();
        pouredCopperAside();
        itemsOfTheFirstPin();
        lastItemsOfAWay();
        lastItemsOfAWayWithVias();
        refusedWaysMakeNothing();
        nothingToDo();
        roundsThatAreAllowed();
        roundsUntilNothingIsOpen();
        netsByRisingNumbers();
        netIsLeftWithoutAWay();
        lowestPlacedPad();
        pouredCopperOfRounds();
        pricesAtFirst();
        pricesThatGrow();
        priceThatGrowsTwice();
        grownPricesLeadAway();
        pricesAgainstWaysRound();
        priceOnlyWhereItemsAreNear();
        priceOfTheLastCell();
        noPriceOfTheBeginning();
        nearBeginningsCostNothing();
        noPriceWhereLockedOnesAre();
        noPriceForPads();
        rippedJustWithinTheGap();
        rippedInItsLayerOnly();
        notRippedFarAway();
        lockedOnesStay();
        itemsUsedUpEndAllAtOnce();
        itemsUsedUpBehindAWay();
        rippedSums();
        lastCallOfAll();
        System.exit(CHECK.end());
    }

    /** Pads of one part are next to each other: the least way has one step, and one track of two cells. */
    private static void shortestWay() {
        for (int turn = 0; turn < 4; turn++) {
            Coppertrace board = new Coppertrace();
            board.addPart(0, 2, false);
            board.setWire(0, 1, true);
            board.place(0, 5, 5, turn);
            CHECK.same("one step", board.route(0, 1), 2);
            CHECK.same("one item", board.items(), 1);
            CHECK.same("of two cells", board.trackLength(), 1L);
        }
    }

    /** "to the other layer of the same column and row for the toll 5" */
    private static void wayOfOneVia() {
        Coppertrace board = Boards.wired(false, 2, 5, 6, 5);
        board.track(1, 1, 2, 5, 2, false);
        board.place(1, 6, 6, 0);
        board.via(1, 6, 6);
        board.track(1, 1, 6, 5, 2, true);
        board.track(1, 1, 3, 5, 4, false);
        CHECK.same("one change of the layer", board.route(0, 1), 5);
        CHECK.same("a via alone", Boards.told(board, 4), "v 102 382");
        CHECK.same("no more", board.items(), 5);
    }

    private static void longestStraightWay() {
        Coppertrace board = Boards.wired(false, 0, 13, 19, 13);
        CHECK.same("19 steps", board.route(0, 1), 38);
        CHECK.same("one track", board.items(), 1);
        CHECK.same("of 20 cells", board.cellOf(0, 0) == 260 && board.cellOf(0, 19) == 279, true);
        Coppertrace up = Boards.wired(false, 19, 0, 19, 13);
        CHECK.same("13 steps", up.route(0, 1), 26);
        CHECK.same("of 14 cells", up.cellOf(0, 0) == 19 && up.cellOf(0, 13) == 279, true);
    }

    /** Nothing of a longer way is left in a shorter one with the same cells. */
    private static void shorterWayBehindALongerOne() {
        Coppertrace board = Boards.wired(false, 2, 5, 16, 5);
        CHECK.same("the longer one", board.route(0, 1), 28);
        board.erase(0);
        board.place(0, 8, 5, 0);
        CHECK.same("the shorter one", board.route(0, 1), 16);
        CHECK.same("its cells", Boards.told(board, 1), "t 108 109 110 111 112 113 114 115 116");
        board.erase(1);
        board.place(0, 14, 5, 0);
        CHECK.same("one round", board.routeAll(1), 1);
        CHECK.same("the shortest one's cells", Boards.told(board, 2), "t 114 115 116");
    }

    private static void fromCornerToCorner() {
        Coppertrace board = Boards.wired(false, 0, 0, 19, 13);
        CHECK.same("32 steps", board.route(0, 1), 64);
        CHECK.same("two tracks", board.items(), 2);
        // Of the cells behind the end, (19, 12) is lower than (18, 13), and is done first.
        CHECK.same("from the end down to the row 0", board.cellOf(0, 0) == 19 && board.cellOf(0, 13) == 279, true);
        CHECK.same("and along it", board.cellOf(1, 0) == 0 && board.cellOf(1, 19) == 19, true);
    }

    /** Cells whose numbers follow each other are not next to each other at the end of a row. */
    private static void noWayOverTheSides() {
        Coppertrace board = Boards.wired(false, 19, 5, 0, 6);
        CHECK.same("from the last column to the first one", board.route(0, 1), 2 * 20);
        Coppertrace back = Boards.wired(false, 0, 6, 19, 5);
        CHECK.same("from the first column to the last one", back.route(0, 1), 2 * 20);
        Coppertrace up = Boards.wired(false, 5, 0, 5, 13);
        CHECK.same("from the first row to the last one", up.route(0, 1), 2 * 13);
    }

    /** The last cell of the layer 0 and the first one of the layer 1 have numbers that follow each other. */
    private static void noWayFromLayerToLayerByNumber() {
        Coppertrace board = Boards.wired(true, 19, 13, 0, 0);
        CHECK.same("from the last cell to the first one", board.route(0, 1), 64);
        Coppertrace back = Boards.wired(true, 0, 0, 19, 13);
        CHECK.same("from the first cell to the last one", back.route(0, 1), 64);
    }

    /** A way along all four sides, round walls that leave nothing else. */
    private static void alongTheSides() {
        Coppertrace board = Boards.wired(false, 0, 0, 2, 0, 10, 7);
        board.track(2, 0, 1, 0, 13, true);
        board.track(2, 1, 0, 0, 20, false);
        board.track(2, 1, 1, 1, 13, true);
        board.track(2, 0, 3, 0, 13, true);
        CHECK.same("up the first column and down again", board.route(0, 1), 2 * 28);
    }

    /** "to one next to it for the toll 2, or to the other layer [..] for the toll 5" */
    private static void tollsOfStepsAndLayers() {
        for (int high = 1; high <= 3; high++) {
            Coppertrace board = Boards.wired(false, 5, 0, 7, 0, 19, 13);
            board.track(2, 0, 6, 0, high + 1, true);
            // Round the wall are 4 more for each row, below it 10 more.
            CHECK.same("a wall of " + (high + 1), board.route(0, 1), high == 1 ? 4 + 8 : 14);
        }
    }

    /** "from which no pad and no item of another net is too near" */
    private static void nearTheWay() {
        for (int gap = 0; gap <= 2; gap++) {
            for (int owner = 0; owner <= 1; owner++) {
                Coppertrace board = Boards.wired(false, 2, 5, 16, 5, 9, 5);
                board.setGap(2 * owner, gap);
                // Past the pad there are gap + 1 rows to go down and up again, unless the vias are less.
                CHECK.same("round a pad with the gap " + gap, board.route(0, 1), 28 + Math.min(10, 4 * (gap + 1)));
                CHECK.same("nothing is too near", board.gaps(), 0);
            }
        }
    }

    /** Pads of all pins close cells, the first one too, and items of all numbers. */
    private static void nearTheFirstPad() {
        Coppertrace pad = Boards.placed(true, 4, 5, 2, 5, 6, 5);
        pad.setWire(1, 2, true);
        CHECK.same("round the first pad", pad.route(1, 2), 12);
        Coppertrace item = Boards.wired(true, 2, 5, 6, 5);
        item.addPart(0, 1, true);
        for (int number = 0; number < 149; number++) {
            item.via(2, 19, 13);
        }
        item.via(2, 8, 5);
        CHECK.thrown("there is a way, but no number", STATE, () -> item.route(0, 1));
        item.setGap(2, 2);
        CHECK.thrown("the last item closes the end", NONE, () -> item.route(0, 1));
    }

    /** What is at a side of the board closes the cells there, and none at the other side. */
    private static void nearTheSides() {
        int[][] between = {{0, 4}, {19, 4}, {4, 0}, {4, 13}};
        for (int side = 0; side < 4; side++) {
            int column = between[side][0];
            int row = between[side][1];
            int right = side < 2 ? 0 : 3;
            int up = side < 2 ? 3 : 0;
            for (int gap = 0; gap <= 2; gap++) {
                Coppertrace board = Boards.wired(true, column - right, row - up, column + right, row + up, column, row);
                board.setGap(2, gap);
                CHECK.same("round it at the side " + side, board.route(0, 1), 12 + 4 * (gap + 1));
            }
        }
        Coppertrace other = Boards.wired(true, 0, 2, 0, 8, 19, 5);
        other.setGap(2, 2);
        CHECK.same("at the other side", other.route(0, 1), 12);
        CHECK.same("in a straight line", other.items(), 1);
        Coppertrace rows = Boards.wired(true, 2, 0, 8, 0, 5, 13);
        rows.setGap(2, 2);
        CHECK.same("at the upper side", rows.route(0, 1), 12);
        CHECK.same("in a straight line too", rows.items(), 1);
    }

    /** "in their layer, also at its end" */
    private static void nearTheEnd() {
        for (int gap = 0; gap <= 2; gap++) {
            for (int away = 2; away <= 3; away++) {
                Coppertrace board = Boards.wired(false, 2, 5, 6, 5, 6, 5 + away);
                board.setGap(2, gap);
                if (away <= gap) {
                    CHECK.thrown("too near to the end", NONE, () -> board.route(0, 1));
                } else {
                    CHECK.same("just not too near to the end", board.route(0, 1), 8);
                }
            }
        }
    }

    private static void nearTheBeginning() {
        Coppertrace board = Boards.wired(false, 6, 5, 2, 5, 6, 7);
        board.setGap(2, 2);
        CHECK.same("where it begins does not matter in its layer", board.route(0, 1), 2 * (1 + 4 + 1));
        Coppertrace closed = Boards.wired(false, 6, 5, 2, 5, 6, 7, 6, 3);
        closed.setGap(2, 2);
        closed.setGap(3, 2);
        CHECK.thrown("but the next cell does", NONE, () -> closed.route(0, 1));
    }

    /** "where the layer changes, this holds for both cells" */
    private static void nearALayerChange() {
        for (int row = 6; row <= 7; row++) {
            Coppertrace board = Boards.wired(false, 1, 5, 7, 5, 19, 0);
            board.track(2, 0, 4, 0, 14, true);
            board.track(2, 1, 1, row, 3, false);
            board.track(2, 1, 1, 10 - row, 3, false);
            board.setGap(2, 1);
            // The wall takes the columns 3 to 5; the tracks at 6 and 4 take the layer 1 from row 3 to row 7,
            // those at 7 and 3 leave the row 5 free.
            CHECK.same("tracks at the row " + row, board.route(0, 1), row == 6 ? 2 * 12 + 10 : 2 * 6 + 10);
        }
    }

    private static void nearALayerChangeAtTheBeginning() {
        for (int column = 3; column <= 4; column++) {
            Coppertrace board = Boards.wired(false, 2, 5, 8, 5, 19, 0);
            board.track(2, 0, column, 0, 14, true);
            board.setGap(2, 1);
            // At (2, 5) the via is too near to a wall in the column 3, and is not to one in the column 4.
            CHECK.same("a wall in the column " + column, board.route(0, 1), column == 3 ? 26 : 22);
        }
        Coppertrace below = Boards.wired(false, 2, 5, 8, 5, 19, 0);
        below.track(2, 1, 0, 5, 3, false);
        below.track(2, 0, 4, 0, 14, true);
        CHECK.same("the other cell of the change is taken", below.route(0, 1), 22);
        CHECK.same("so it changes one step on", Boards.told(below, 4), "v 103 383");
    }

    private static void nearALayerChangeAtTheEnd() {
        Coppertrace board = Boards.wired(false, 8, 5, 2, 5, 19, 0);
        board.track(2, 0, 4, 0, 14, true);
        board.track(2, 1, 2, 0, 14, true);
        CHECK.same("no change at the end, but a step ahead of it", board.route(0, 1), 22);
        CHECK.same("the last track", Boards.told(board, 2), "t 102 103");
        CHECK.same("the change", Boards.told(board, 3), "v 103 383");
    }

    private static void nearInItsLayerOnly() {
        Coppertrace board = Boards.wired(false, 2, 5, 6, 5, 19, 0);
        board.track(2, 1, 0, 5, 20, false);
        board.setGap(2, 2);
        CHECK.same("over a track of the other layer", board.route(0, 1), 8);
    }

    /** "of several the one with the lowest number" */
    private static void lowestCellFirst() {
        Coppertrace board = Boards.wired(false, 5, 5, 9, 9);
        board.route(0, 1);
        CHECK.same("up to it at the end", Boards.told(board, 0), "t 109 129 149 169 189");
        CHECK.same("right at the beginning", Boards.told(board, 1), "t 105 106 107 108 109");
        // Above and below a pad the ways are equal, and the lower one's cells are done first.
        Coppertrace round = Boards.wired(false, 5, 5, 9, 5, 7, 5);
        CHECK.same("round a pad", round.route(0, 1), 12);
        CHECK.same("below it", Boards.told(round, 1), "t 85 86 87 88 89");
        // In the layer 0 and in the layer 1 they are equal too.
        Coppertrace layers = Boards.wired(true, 5, 5, 9, 5);
        CHECK.same("of two layers", layers.route(0, 1), 8);
        CHECK.same("the layer 0", Boards.told(layers, 0), "t 105 106 107 108 109");
    }

    /** "from the cells of all that is joined to one pad, with the toll 0, to a cell of what is joined" */
    private static void fromEveryCellThatIsJoined() {
        Coppertrace board = Boards.wired(false, 0, 0, 19, 13);
        board.track(0, 0, 0, 0, 20, false);
        board.via(0, 19, 0);
        board.track(0, 1, 19, 0, 13, true);
        board.track(1, 0, 0, 13, 20, false);
        board.via(1, 0, 13);
        board.track(1, 1, 0, 13, 19, false);
        // From (19, 12) of the layer 1, the last cell of all that is joined, to (18, 13) of the layer 1.
        CHECK.same("two steps at the far end", board.route(0, 1), 4);
        CHECK.same("the last step", Boards.told(board, 6), "t 538 558");
        CHECK.same("the first step", Boards.told(board, 7), "t 538 539");
        CHECK.same("both are joined", board.areJoined(0, 1), true);
    }

    /** "Poured copper does not matter for this, neither for what is joined to the pads." */
    private static void pouredCopperAside() {
        Coppertrace board = Boards.wired(false, 2, 5, 6, 5, 10, 10);
        board.pour(2, 0, 0, 0, 19, 13);
        board.pour(2, 1, 0, 0, 19, 13);
        board.via(2, 10, 10);
        board.setGap(2, 2);
        CHECK.same("through copper of another net", board.route(0, 1), 8);
        Coppertrace own = Boards.wired(false, 2, 5, 6, 5);
        own.pour(0, 0, 0, 0, 19, 13);
        CHECK.same("joined by its own", own.opens(0), 0);
        CHECK.same("but a way is made", own.route(0, 1), 8);
        CHECK.thrown("and then no more", UNSUPPORTED, () -> own.route(0, 1));
    }

    /** "The way becomes items that belong to the first pin" */
    private static void itemsOfTheFirstPin() {
        for (int first = 0; first <= 1; first++) {
            Coppertrace board = Boards.wired(false, 2, 5, 6, 7);
            board.route(first, 1 - first);
            board.setWire(0, 1, false);
            CHECK.same("the first item", board.netAt(board.cellOf(0, 1)), first);
            CHECK.same("the last item", board.netAt(board.cellOf(1, 1)), first);
        }
    }

    /** "if there is a way, and more than 150 items would be made" */
    private static void lastItemsOfAWay() {
        for (int left = 0; left <= 2; left++) {
            Coppertrace board = Boards.wired(false, 2, 5, 6, 7);
            Boards.useUp(board, 0, 19, 0, left);
            if (left < 2) {
                CHECK.thrown("two items, left are " + left, STATE, () -> board.route(0, 1));
                CHECK.same("none is made", board.items(), 0);
            } else {
                CHECK.same("two items, left are two", board.route(0, 1), 12);
                CHECK.same("the last item", board.kindOf(149), 't');
            }
        }
    }

    /** A way of a via, a track, a via and a track takes four numbers, its first item as well as its last one. */
    private static void lastItemsOfAWayWithVias() {
        for (int left = 3; left <= 4; left++) {
            Coppertrace board = Boards.wired(false, 2, 5, 6, 5, 19, 0);
            board.track(2, 0, 4, 0, 14, true);
            for (int item = 1; item < 150 - left; item++) {
                board.via(2, 19, 0);
            }
            if (left == 3) {
                CHECK.thrown("four items, left are three", STATE, () -> board.route(0, 1));
            } else {
                CHECK.same("four items, left are four", board.route(0, 1), 18);
                CHECK.same("the first one", Boards.told(board, 146), "v 106 386");
                CHECK.same("the last one", Boards.told(board, 149), "t 102 103");
            }
        }
    }

    private static void refusedWaysMakeNothing() {
        Coppertrace board = Boards.wired(false, 2, 5, 6, 5, 4, 1);
        board.track(2, 0, 4, 0, 14, true);
        board.track(2, 1, 4, 0, 14, true);
        CHECK.thrown("walls in both layers", NONE, () -> board.route(0, 1));
        CHECK.same("no items but the walls", board.items(), 2);
        CHECK.same("the next number", board.via(2, 4, 1), 2);
        board.erase(1);
        CHECK.same("with one wall less", board.route(0, 1), 18);
    }

    /** "0 if no net has open places" */
    private static void nothingToDo() {
        CHECK.same("an empty sheet", new Coppertrace().routeAll(6), 0);
        Coppertrace board = Boards.singles(3, false);
        board.setWire(0, 1, true);
        CHECK.same("none is placed", board.routeAll(6), 0);
        board.place(0, 2, 5, 0);
        CHECK.same("one is placed", board.routeAll(6), 0);
        board.place(2, 6, 5, 0);
        CHECK.same("one of each net is placed", board.routeAll(6), 0);
        board.place(1, 10, 5, 0);
        CHECK.same("two of a net are placed", board.routeAll(6), 1);
        CHECK.same("all is joined", board.routeAll(6), 0);
    }

    /** "the number of rounds that are allowed, 1 to 6" */
    private static void roundsThatAreAllowed() {
        Coppertrace board = Boards.wired(true, 2, 5, 6, 5, 4, 1);
        for (int layer = 0; layer <= 1; layer++) {
            board.track(2, layer, 4, 0, 14, true);
            board.setLocked(layer, true);
        }
        for (int rounds = 1; rounds <= 6; rounds++) {
            CHECK.same("rounds for nothing", board.routeAll(rounds), rounds);
        }
        CHECK.same("nothing was made", board.items(), 2);
    }

    /** "Rounds are made until no net has open places" */
    private static void roundsUntilNothingIsOpen() {
        Coppertrace board = Boards.wired(false, 2, 5, 6, 5, 2, 9, 6, 9);
        board.setWire(2, 3, true);
        CHECK.same("one round is enough", board.routeAll(6), 1);
        CHECK.same("both nets", board.opens(0) + board.opens(2), 0);
        CHECK.same("two items", board.items(), 2);
        // The later net takes away what the earlier one has made, and is not asked again in its round.
        Coppertrace again = crossing();
        CHECK.same("one round is not", again.routeAll(1), 1);
        CHECK.same("the earlier net is open", again.opens(0), 1);
        CHECK.same("the later net is not", again.opens(2), 0);
    }

    /** Two nets that can only cross in the layer 0, as the layer 1 is locked up. */
    private static Coppertrace crossing() {
        Coppertrace board = Boards.wired(false, 0, 5, 19, 5, 8, 0, 8, 13, 15, 9);
        board.setWire(2, 3, true);
        for (int row = 0; row < 14; row++) {
            board.track(4, 1, 0, row, 20, false);
            board.setLocked(row, true);
        }
        return board;
    }

    /** "A round goes through the nets by rising numbers" */
    private static void netsByRisingNumbers() {
        Coppertrace board = Boards.placed(false, 2, 9, 2, 5, 6, 5, 6, 9);
        board.setWire(1, 2, true);
        board.setWire(0, 3, true);
        board.routeAll(1);
        CHECK.same("the net 0 first", Boards.told(board, 0), "t 182 183 184 185 186");
        CHECK.same("the net 1 then", Boards.told(board, 1), "t 102 103 104 105 106");
    }

    /** "If no way is found, the net is left until the next round." */
    private static void netIsLeftWithoutAWay() {
        Coppertrace board = Boards.wired(true, 2, 5, 6, 5, 4, 1, 10, 5, 14, 5);
        board.setWire(3, 4, true);
        for (int layer = 0; layer <= 1; layer++) {
            board.track(2, layer, 4, 0, 14, true);
            board.setLocked(layer, true);
        }
        CHECK.same("both rounds", board.routeAll(2), 2);
        CHECK.same("the net without a way", board.opens(0), 1);
        CHECK.same("the net behind it", board.opens(3), 0);
        board.setLocked(1, false);
        CHECK.same("a round with a way", board.routeAll(6), 1);
        CHECK.same("it is joined now", board.opens(0), 0);
    }

    /** "from what is joined to its lowest placed pad, to what is joined to any other placed pad of it" */
    private static void lowestPlacedPad() {
        Coppertrace board = Boards.singles(4, false);
        for (int pin = 0; pin < 3; pin++) {
            board.setWire(pin, pin + 1, true);
        }
        board.place(1, 2, 5, 0);
        board.place(3, 6, 5, 0);
        board.place(2, 12, 5, 0);
        CHECK.same("one round", board.routeAll(1), 1);
        CHECK.same("to the nearer pad first", Boards.told(board, 0), "t 102 103 104 105 106");
        CHECK.same("from there to the other one", Boards.told(board, 1), "t 106 107 108 109 110 111 112");
        for (int pin = 0; pin < 3; pin++) {
            board.setWire(pin, pin + 1, false);
        }
        CHECK.same("both belong to the lowest placed pad", board.netAt(104) == 1 && board.netAt(109) == 1, true);
    }

    /** "as long as a net has open places, without poured copper" */
    private static void pouredCopperOfRounds() {
        Coppertrace board = Boards.wired(false, 2, 5, 6, 5);
        board.pour(0, 0, 0, 0, 19, 13);
        CHECK.same("open places are none with it", board.opens(0), 0);
        CHECK.same("but without it", board.routeAll(3), 1);
        CHECK.same("so a way is made", board.items(), 1);
    }

    /** "prices are 10 at first" */
    private static void pricesAtFirst() {
        Coppertrace board = new Coppertrace();
        for (int cell = 0; cell < 500; cell++) {
            CHECK.same("price of the cell " + cell, board.price(cell), 10);
        }
        Coppertrace rest = new Coppertrace();
        for (int cell = 500; cell < 560; cell++) {
            CHECK.same("price of the cell " + cell, rest.price(cell), 10);
        }
    }

    /** "the price of each cell that the way went to for its price [..] grows by 10" */
    private static void pricesThatGrow() {
        Coppertrace board = crossing();
        board.routeAll(1);
        CHECK.same("the first crossing", board.price(108), 20);
        int sum = 0;
        for (int round = 2; round <= 6; round++) {
            board.routeAll(1);
        }
        for (int cell = 0; cell < 280; cell++) {
            sum += board.price(cell) - 10;
        }
        // The first round has one crossing, each later one two.
        CHECK.same("one price for each crossing", sum, 10 * (1 + 2 * 5));
        CHECK.same("one item for each, if ways are straight", board.ripped() >= 11, true);
    }

    /** Where there is no other way, an item is in the same cell's way for a price of 10, of 20 and so on. */
    private static void priceThatGrowsTwice() {
        Coppertrace board = Boards.wired(false, 0, 0, 2, 0, 19, 13);
        board.track(2, 0, 0, 1, 3, false);
        board.track(2, 1, 0, 0, 3, false);
        board.setLocked(0, true);
        board.setLocked(1, true);
        for (int time = 1; time <= 6; time++) {
            int item = board.via(2, 1, 0);
            CHECK.same("one round", board.routeAll(1), 1);
            CHECK.same("its price, time " + time, board.price(1), 10 + 10 * time);
            CHECK.same("the item is gone", board.kindOf(item), '-');
            CHECK.same("the way", Boards.told(board, item + 1), "t 0 1 2");
            board.erase(item + 1);
        }
        CHECK.same("the prices of the others", board.price(0) == 10 && board.price(2) == 10, true);
        CHECK.same("what was taken away", board.ripped(), 6);
    }

    /** A wall that comes again is gone through where its cells have cost least so far. */
    private static void grownPricesLeadAway() {
        Coppertrace board = Boards.wired(false, 2, 5, 6, 5, 19, 0);
        board.track(2, 1, 4, 0, 14, true);
        board.setLocked(0, true);
        // The row 5 costs 18, 28; the rows 4 and 6 cost 22, 32; the row 3 costs 26.
        int[] due = {104, 84, 124, 64};
        for (int time = 0; time < 4; time++) {
            int wall = board.track(2, 0, 4, 0, 14, true);
            CHECK.same("one round through the wall", board.routeAll(1), 1);
            CHECK.same("where it costs least, time " + time, board.netAt(due[time]), 0);
            CHECK.same("its price", board.price(due[time]), 20);
            CHECK.same("the wall is gone", board.kindOf(wall), '-');
            eraseBehind(board, wall);
        }
    }

    private static void eraseBehind(Coppertrace board, int item) {
        int last = board.via(0, 19, 13);
        for (int number = item + 1; number <= last; number++) {
            board.erase(number);
        }
    }

    /** "for a further toll of its price" */
    private static void pricesAgainstWaysRound() {
        for (int high = 2; high <= 4; high++) {
            Coppertrace board = Boards.wired(false, 5, 0, 7, 0, 19, 13);
            board.track(2, 0, 6, 0, high, true);
            board.track(2, 1, 0, 0, 20, false);
            board.setLocked(1, true);
            board.routeAll(1);
            // Round the wall are 4 more for each of its rows, through it 10 more: 8 is less, and 12 is not.
            CHECK.same("a wall of " + high + " is taken away", board.ripped(), high <= 2 ? 0 : 1);
            CHECK.same("its price", board.price(6), high <= 2 ? 10 : 20);
        }
    }

    /** "to a cell from which only items that are not locked are too near" */
    private static void priceOnlyWhereItemsAreNear() {
        for (int gap = 0; gap <= 2; gap++) {
            Coppertrace board = Boards.wired(false, 0, 5, 19, 5, 10, 1);
            board.track(2, 0, 10, 0, 14, true);
            board.track(2, 1, 10, 0, 14, true);
            board.setLocked(1, true);
            board.setGap(0, gap);
            CHECK.same("one round", board.routeAll(1), 1);
            for (int column = 0; column < 20; column++) {
                boolean isNear = Math.abs(column - 10) <= gap;
                CHECK.same("price in the column " + column, board.price(100 + column), isNear ? 20 : 10);
            }
        }
    }

    /** "also of its last one" */
    private static void priceOfTheLastCell() {
        for (int away = 1; away <= 2; away++) {
            Coppertrace board = Boards.wired(false, 2, 5, 6, 5, 19, 0);
            board.track(2, 0, 6 + away, 5, 2, false);
            board.setGap(2, 1);
            board.routeAll(1);
            CHECK.same("the last cell", board.price(106), away == 1 ? 20 : 10);
            CHECK.same("the first cell", board.price(102), 10);
            CHECK.same("what is too near to it", board.ripped(), away == 1 ? 1 : 0);
        }
    }

    /** The way goes to all of its cells but the one where it begins. */
    private static void noPriceOfTheBeginning() {
        for (int from = 0; from <= 1; from++) {
            Coppertrace board = Boards.singles(3, false);
            board.setWire(0, 1, true);
            board.place(from, 2, 5, 0);
            board.place(1 - from, 6, 5, 0);
            board.track(2, 0, 0, 5, 2, false);
            board.setGap(2, 1);
            board.routeAll(1);
            CHECK.same("the pad by the item", board.price(102), from == 0 ? 10 : 20);
            CHECK.same("the other pad", board.price(106), 10);
            CHECK.same("what is too near to it is gone", board.ripped(), 1);
        }
    }

    /** Of two cells where a way may begin, the nearer one is taken, though an item is too near to it. */
    private static void nearBeginningsCostNothing() {
        Coppertrace board = Boards.wired(false, 6, 5, 12, 5, 19, 0);
        board.track(0, 0, 6, 2, 4, true);
        board.track(2, 0, 4, 6, 2, false);
        board.setGap(2, 1);
        CHECK.same("one round", board.routeAll(1), 1);
        CHECK.same("straight on from the pad", Boards.told(board, 2), "t 106 107 108 109 110 111 112");
        CHECK.same("what was too near is gone", board.kindOf(1), '-');
    }

    /** One locked item or one pad near a cell closes it, whatever else is near. */
    private static void noPriceWhereLockedOnesAre() {
        Coppertrace board = Boards.wired(false, 5, 0, 7, 0, 19, 13);
        board.track(2, 0, 6, 0, 6, true);
        board.track(2, 0, 6, 0, 2, true);
        board.track(2, 1, 6, 0, 14, true);
        board.setLocked(1, true);
        board.setLocked(2, true);
        board.routeAll(1);
        CHECK.same("the lowest cell that is not closed", board.price(46), 20);
        CHECK.same("a closed one", board.price(6) == 10 && board.price(26) == 10, true);
        CHECK.same("the unlocked one is gone", board.kindOf(0), '-');
        CHECK.same("the locked ones are not", board.kindOf(1) == 't' && board.kindOf(2) == 't', true);
    }

    /** Pads close cells for rounds too: round them are 12 more, through them would be 10 more. */
    private static void noPriceForPads() {
        Coppertrace board = Boards.wired(true, 2, 5, 6, 5);
        board.addPart(0, 6, true);
        board.place(2, 4, 3, 1);
        CHECK.same("one round", board.routeAll(1), 1);
        CHECK.same("nothing is too near", board.gaps(), 0);
        CHECK.same("below the lowest pad", board.netAt(44), 0);
        CHECK.same("prices stay", board.price(44) == 10 && board.price(104) == 10, true);
    }

    /** "each item of another net that is too near to a new one is taken away" */
    private static void rippedJustWithinTheGap() {
        for (int gap = 0; gap <= 2; gap++) {
            for (int owner = 0; owner <= 1; owner++) {
                Coppertrace board = Boards.wired(false, 5, 7, 14, 7, 19, 0);
                board.track(2, 0, 3, 8, 14, false);
                board.track(2, 0, 3, 9, 14, false);
                board.track(2, 0, 3, 10, 14, false);
                board.track(2, 0, 3, 6, 14, false);
                board.track(2, 1, 0, 7, 20, false);
                board.setLocked(4, true);
                board.setGap(2 * owner, gap);
                board.routeAll(1);
                CHECK.same("one above", board.kindOf(0), gap >= 1 ? '-' : 't');
                CHECK.same("two above", board.kindOf(1), gap >= 2 ? '-' : 't');
                CHECK.same("three above", board.kindOf(2), 't');
                CHECK.same("one below", board.kindOf(3), gap >= 1 ? '-' : 't');
                CHECK.same("their number", board.ripped(), new int[] {0, 2, 3}[gap]);
            }
        }
    }

    private static void rippedInItsLayerOnly() {
        Coppertrace board = Boards.wired(false, 5, 7, 14, 7, 19, 0);
        board.track(2, 1, 3, 7, 14, false);
        board.track(2, 0, 9, 6, 2, true);
        board.track(2, 0, 9, 0, 7, true);
        board.track(2, 0, 9, 7, 7, true);
        board.routeAll(1);
        CHECK.same("in the other layer", board.kindOf(0), 't');
        CHECK.same("in its way, twice", board.kindOf(1) == '-' && board.kindOf(3) == '-', true);
        CHECK.same("only next to it", board.kindOf(2), 't');
    }

    private static void notRippedFarAway() {
        Coppertrace board = Boards.placed(false, 19, 13, 10, 7, 14, 7);
        board.addPart(0, 1, false);
        board.setWire(1, 2, true);
        board.via(3, 0, 0);
        board.track(3, 1, 18, 0, 2, false);
        board.track(3, 0, 0, 13, 2, false);
        CHECK.same("one round", board.routeAll(1), 1);
        CHECK.same("nothing near", board.ripped(), 0);
        CHECK.same("all of them and the way", board.items(), 4);
    }

    /** "An item that is locked is never taken away by a search." */
    private static void lockedOnesStay() {
        Coppertrace board = Boards.wired(false, 2, 5, 6, 5, 19, 0);
        board.track(2, 0, 0, 6, 2, false);
        board.setGap(2, 1);
        board.setLocked(0, true);
        CHECK.same("one round", board.routeAll(1), 1);
        CHECK.same("too near to where the way begins, it stays", board.kindOf(0), 't');
        CHECK.same("nothing was ripped", board.ripped(), 0);
        CHECK.same("and is too near", board.gaps() > 0, true);
        board.setLocked(0, false);
        board.erase(1);
        board.routeAll(1);
        CHECK.same("unlocked it does not", board.kindOf(0), '-');
    }

    /** "or items are used up, which ends all at once, ahead of the way that would not fit" */
    private static void itemsUsedUpEndAllAtOnce() {
        Coppertrace board = Boards.wired(false, 2, 5, 6, 7, 10, 5, 14, 5, 19, 0);
        board.setWire(2, 3, true);
        board.track(4, 0, 2, 6, 5, false);
        Boards.useUp(board, 4, 19, 0, 1);
        CHECK.same("two items do not fit", board.routeAll(6), 1);
        CHECK.same("so the next net, which would, gets none", board.opens(2), 1);
        CHECK.same("nothing was taken away for it", board.ripped(), 0);
        CHECK.same("no price has grown", board.price(126), 10);
    }

    private static void itemsUsedUpBehindAWay() {
        Coppertrace board = Boards.wired(false, 2, 5, 6, 5, 10, 5, 14, 7, 2, 9, 6, 9);
        board.setWire(2, 3, true);
        board.setWire(4, 5, true);
        Boards.useUp(board, 4, 19, 0, 2);
        CHECK.same("one item fits, the next two do not", board.routeAll(6), 1);
        CHECK.same("the first net", board.opens(0), 0);
        CHECK.same("the second net", board.opens(2), 1);
        CHECK.same("the third net", board.opens(4), 1);
        CHECK.same("one item is left", board.via(0, 19, 13), 149);
        Coppertrace just = Boards.wired(false, 2, 5, 6, 5, 10, 5, 14, 5);
        just.setWire(2, 3, true);
        Boards.useUp(just, 0, 19, 0, 2);
        CHECK.same("both fit just so", just.routeAll(6), 1);
        CHECK.same("the last number", just.kindOf(149), 't');
        CHECK.same("and all is joined", just.isAsDrawn(), true);
    }

    /** "Returns how many items were taken away by searches." */
    private static void rippedSums() {
        Coppertrace board = crossing();
        CHECK.same("none at first", board.ripped(), 0);
        board.routeAll(1);
        CHECK.same("one", board.ripped(), 1);
        CHECK.same("which is not there any more", board.kindOf(14), '-');
        CHECK.same("so it can't be erased", board.erase(14), false);
        board.erase(0);
        CHECK.same("erased ones do not count", board.ripped(), 1);
        board.routeAll(1);
        CHECK.same("but all calls of searches", board.ripped() > 1, true);
    }

    private static void lastCallOfAll() {
        Coppertrace board = Boards.wired(false, 2, 5, 6, 5);
        for (int call = 6; call < 512; call++) {
            CHECK.same("price in the call " + call, board.price(call), 10);
        }
        CHECK.same("the last of 512 calls", board.routeAll(6), 1);
    }
}
