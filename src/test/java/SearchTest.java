import java.util.NoSuchElementException;

/** Promises 18 to 21: ways that are searched for. The dues are worked out by hand from the document. */
public final class SearchTest {
    private static final Class<IndexOutOfBoundsException> NO_SUCH = IndexOutOfBoundsException.class;
    private static final Class<IllegalArgumentException> ILLEGAL = IllegalArgumentException.class;
    private static final Class<UnsupportedOperationException> UNSUPPORTED = UnsupportedOperationException.class;
    private static final Class<NoSuchElementException> NONE = NoSuchElementException.class;
    private static final Check CHECK = new Check("SearchTest");

    public static void main(String[] args) {
        straightWay();
        wayRoundPads();
        wayOnBothLayers();
        nearEnds();
        layerChangeAtTheBeginning();
        fromAllThatIsJoined();
        pouredCopperDoesNotMatter();
        tiesGoToLowCells();
        refusedRoutes();
        itemsUsedUpByRoute();
        ripAndPrice();
        lockedItems();
        pricedLastCell();
        roundsAreMade();
        threePadsOfANet();
        itemsUsedUpByRounds();
        itemsOfLongWays();
        pricedWays();
        prices();
        System.exit(CHECK.end());
    }

    private static void straightWay() {
        Coppertrace board = Boards.wired(false, 2, 5, 6, 5);
        CHECK.same("toll of four steps", board.route(1, 0), 8);
        CHECK.same("one item", board.items(), 1);
        CHECK.same("the track", Boards.told(board, 0), "t 102 103 104 105 106");
        board.setWire(0, 1, false);
        board.lift(1);
        CHECK.same("it belongs to the first pin", board.netAt(104), 1);
        Coppertrace up = Boards.wired(false, 3, 9, 3, 2);
        CHECK.same("toll of seven steps", up.route(0, 1), 14);
        CHECK.same("the track upwards", Boards.told(up, 0), "t 43 63 83 103 123 143 163 183");
        CHECK.same("not locked", up.setLocked(0, false), false);
    }

    private static void wayRoundPads() {
        // A pad of another net in between: down by a row is tried before up.
        Coppertrace board = Boards.wired(true, 2, 5, 6, 5, 4, 5);
        CHECK.same("toll round a pad", board.route(0, 1), 12);
        CHECK.same("three tracks", board.items(), 3);
        CHECK.same("from the end that was found", Boards.told(board, 0), "t 86 106");
        CHECK.same("then along", Boards.told(board, 1), "t 82 83 84 85 86");
        CHECK.same("to where it began", Boards.told(board, 2), "t 82 102");
    }

    private static void wayOnBothLayers() {
        Coppertrace board = Boards.wired(false, 2, 5, 6, 5, 19, 0);
        board.track(2, 0, 4, 0, 14, true);
        CHECK.same("toll under a wall", board.route(0, 1), 18);
        CHECK.same("via at the end", Boards.told(board, 1), "v 106 386");
        CHECK.same("below the wall", Boards.told(board, 2), "t 383 384 385 386");
        CHECK.same("via before the wall", Boards.told(board, 3), "v 103 383");
        CHECK.same("to the pad", Boards.told(board, 4), "t 102 103");
        CHECK.same("no more", board.items(), 5);
        CHECK.same("nothing is too near", board.gaps(), 0);
    }

    private static void nearEnds() {
        Coppertrace atEnd = Boards.wired(false, 2, 5, 6, 5, 19, 0);
        atEnd.track(2, 0, 7, 5, 2, false);
        atEnd.setGap(2, 1);
        CHECK.thrown("the end is too near to another net", NONE, () -> atEnd.route(0, 1));
        // The same two pads, from the other side: where it begins may be too near.
        CHECK.same("the beginning does not matter", atEnd.route(1, 0), 8);
        Coppertrace locked = Boards.wired(false, 2, 5, 6, 5, 19, 0);
        locked.track(2, 0, 4, 0, 14, true);
        locked.track(2, 1, 4, 0, 14, true);
        CHECK.thrown("walls in both layers", NONE, () -> locked.route(0, 1));
        CHECK.same("a search that found nothing took nothing away", locked.items(), 2);
    }

    private static void layerChangeAtTheBeginning() {
        Coppertrace board = Boards.wired(false, 2, 5, 8, 5, 19, 0);
        board.track(2, 0, 3, 0, 14, true);
        board.setGap(2, 1);
        // At (2, 5) the wall is too near for a via, so the way steps back first.
        CHECK.same("toll with a step back", board.route(0, 1), 2 + 5 + 14 + 5);
        CHECK.same("via at the end", Boards.told(board, 1), "v 108 388");
        CHECK.same("below the wall", Boards.told(board, 2), "t 381 382 383 384 385 386 387 388");
        CHECK.same("via away from the wall", Boards.told(board, 3), "v 101 381");
        CHECK.same("the step back", Boards.told(board, 4), "t 101 102");
    }

    private static void fromAllThatIsJoined() {
        Coppertrace board = Boards.wired(false, 2, 5, 12, 9);
        board.track(0, 0, 2, 5, 9, false);
        board.track(1, 0, 12, 7, 3, true);
        // From (10, 5), the end of the one track, to (12, 7), the end of the other one.
        CHECK.same("toll between the tracks", board.route(0, 1), 8);
        CHECK.same("the items are between them", Boards.told(board, 2), "t 112 132 152");
        CHECK.same("and the rest", Boards.told(board, 3), "t 110 111 112");
    }

    private static void pouredCopperDoesNotMatter() {
        Coppertrace board = Boards.wired(false, 2, 5, 6, 5, 4, 8);
        board.pour(0, 0, 0, 5, 19, 5);
        board.pour(2, 0, 0, 0, 19, 13);
        CHECK.same("joined by poured copper", board.areJoined(0, 1), true);
        CHECK.same("is not joined for a search", board.route(0, 1), 8);
        CHECK.thrown("now it is", UNSUPPORTED, () -> board.route(0, 1));
    }

    private static void tiesGoToLowCells() {
        // Of all shortest ways from (2, 2) to (4, 4), cells are done by toll, then by number.
        Coppertrace board = Boards.wired(false, 2, 2, 4, 4);
        CHECK.same("toll slantwise", board.route(0, 1), 8);
        CHECK.same("up at the end", Boards.told(board, 0), "t 44 64 84");
        CHECK.same("right at the beginning", Boards.told(board, 1), "t 42 43 44");
        Coppertrace back = Boards.wired(false, 4, 4, 2, 2);
        CHECK.same("toll back", back.route(0, 1), 8);
        CHECK.same("left at the end", Boards.told(back, 0), "t 42 43 44");
        CHECK.same("down at the beginning", Boards.told(back, 1), "t 44 64 84");
    }

    private static void refusedRoutes() {
        Coppertrace board = Boards.wired(false, 2, 5, 6, 5, 9, 9);
        CHECK.thrown("no pin 3", NO_SUCH, () -> board.route(0, 3));
        CHECK.thrown("no pin -1", NO_SUCH, () -> board.route(-1, 0));
        CHECK.thrown("two nets", ILLEGAL, () -> board.route(0, 2));
        CHECK.thrown("a pad to itself", UNSUPPORTED, () -> board.route(0, 0));
        board.lift(1);
        CHECK.thrown("not placed", ILLEGAL, () -> board.route(0, 1));
        CHECK.thrown("not placed, from there", ILLEGAL, () -> board.route(1, 0));
        CHECK.thrown("itself, not placed", ILLEGAL, () -> board.route(1, 1));
    }

    private static void itemsUsedUpByRoute() {
        Coppertrace board = Boards.wired(false, 2, 5, 6, 7, 15, 1);
        for (int item = 0; item < 149; item++) {
            board.via(2, 15, 1);
            board.erase(item);
        }
        CHECK.thrown("two items, one is left", IllegalStateException.class, () -> board.route(0, 1));
        board.place(1, 6, 5, 0);
        CHECK.same("one item, one is left", board.route(0, 1), 8);
        CHECK.thrown("joined, none is left", UNSUPPORTED, () -> board.route(0, 1));
        board.place(1, 6, 9, 0);
        CHECK.thrown("a way, none is left", IllegalStateException.class, () -> board.route(0, 1));
        board.setGap(2, 2);
        board.place(1, 13, 2, 0);
        CHECK.thrown("no way, none is left", NONE, () -> board.route(0, 1));
    }

    private static Coppertrace crossing() {
        Coppertrace board = Boards.wired(false, 2, 5, 6, 5, 4, 0, 4, 13);
        board.setWire(2, 3, true);
        board.track(2, 0, 4, 0, 14, true);
        board.track(2, 1, 4, 0, 14, true);
        return board;
    }

    private static void ripAndPrice() {
        Coppertrace board = crossing();
        CHECK.same("one round does", board.routeAll(6), 1);
        CHECK.same("one item was in the way", board.ripped(), 1);
        CHECK.same("it is gone", board.kindOf(0), '-');
        CHECK.same("that of the other layer is not", board.kindOf(1), 't');
        CHECK.same("straight through", Boards.told(board, 2), "t 102 103 104 105 106");
        CHECK.same("the price of the crossing", board.price(104), 20);
        CHECK.same("the price next to it", board.price(103), 10);
        CHECK.same("the price of the other layer", board.price(384), 10);
        // Through the other layer is 10 more than straight, round the track 12, through it 14 or more.
        CHECK.same("the other net's via at its end", Boards.told(board, 3), "v 264 544");
        CHECK.same("along its own track", Boards.told(board, 4), "t 364 384 404 424 444 464 484 504 524 544");
        CHECK.same("via before the new track", Boards.told(board, 5), "v 84 364");
        CHECK.same("to its pad", Boards.told(board, 6), "t 4 24 44 64 84");
        CHECK.same("no more", board.items(), 6);
        CHECK.same("all is joined", board.isAsDrawn(), true);
        CHECK.same("nothing is left to do", board.routeAll(1), 0);
    }

    private static void lockedItems() {
        Coppertrace board = crossing();
        board.setLocked(0, true);
        CHECK.same("one round", board.routeAll(1), 1);
        CHECK.same("the locked one is there", board.kindOf(0), 't');
        CHECK.same("the other one is not", board.kindOf(1), '-');
        CHECK.same("the price on the other layer", board.price(384), 20);
        CHECK.same("both nets are joined", board.isAsDrawn(), true);
        Coppertrace both = crossing();
        both.setLocked(0, true);
        both.setLocked(1, true);
        CHECK.same("all rounds for nothing", both.routeAll(3), 3);
        CHECK.same("nothing was taken away", both.ripped(), 0);
        CHECK.same("nothing was made", both.items(), 2);
        CHECK.same("still open", both.opens(0), 1);
        // A locked item that is too near to where a way begins stays, an unlocked one does not.
        Coppertrace begin = Boards.wired(false, 2, 5, 6, 5, 19, 0);
        begin.track(2, 0, 0, 5, 2, false);
        begin.track(2, 0, 0, 4, 2, false);
        begin.setGap(2, 1);
        begin.setLocked(0, true);
        CHECK.same("one round", begin.routeAll(1), 1);
        CHECK.same("locked at the beginning", begin.kindOf(0), 't');
        CHECK.same("unlocked at the beginning", begin.kindOf(1), '-');
        CHECK.same("the beginning costs nothing", begin.price(102), 10);
        CHECK.same("one was taken away", begin.ripped(), 1);
    }

    private static void pricedLastCell() {
        Coppertrace board = Boards.wired(false, 2, 5, 6, 5, 19, 0);
        board.track(2, 0, 7, 5, 2, false);
        board.track(2, 0, 8, 5, 2, false);
        board.via(2, 6, 6);
        board.erase(2);
        board.setGap(0, 1);
        CHECK.same("one round", board.routeAll(2), 1);
        CHECK.same("the last cell had a price", board.price(106), 20);
        CHECK.same("the cell before had none", board.price(105), 10);
        CHECK.same("too near to the end", board.kindOf(0), '-');
        CHECK.same("far enough from it", board.kindOf(1), 't');
        CHECK.same("what was erased is not taken away", board.ripped(), 1);
        // Its own items, pads of others and items out of reach stay.
        CHECK.same("no gap is broken", board.gaps(), 0);
    }

    private static void roundsAreMade() {
        // The layer 1 is locked up, and two nets must cross on the other one: they rip for ever.
        Coppertrace board = Boards.wired(false, 0, 5, 19, 5, 8, 0, 8, 13, 15, 9);
        board.setWire(2, 3, true);
        for (int row = 0; row < 14; row++) {
            board.track(4, 1, 0, row, 20, false);
            board.setLocked(row, true);
        }
        CHECK.same("one round", board.routeAll(1), 1);
        CHECK.same("the second net has ripped the first one", board.ripped(), 1);
        CHECK.same("the first one", board.opens(0), 1);
        CHECK.same("the second one", board.opens(2), 0);
        CHECK.same("the price where they met", board.price(108), 20);
        CHECK.same("six more rounds", board.routeAll(6), 6);
        CHECK.same("still the first one", board.opens(0), 1);
        CHECK.same("and the second one", board.opens(2), 0);
        CHECK.same("locked ones are there", board.kindOf(0) == 't' && board.kindOf(13) == 't', true);
        Coppertrace wrong = Boards.wired(false, 2, 5, 6, 5);
        for (int rounds : new int[] {0, 7, -1, Integer.MIN_VALUE, Integer.MAX_VALUE}) {
            CHECK.thrown("rounds out of range", ILLEGAL, () -> wrong.routeAll(rounds));
        }
        wrong.lift(0);
        CHECK.same("one pad alone has no open places", wrong.routeAll(6), 0);
        CHECK.same("nothing was made", wrong.items(), 0);
    }

    private static void threePadsOfANet() {
        Coppertrace board = Boards.wired(false, 2, 5, 16, 5, 6, 5);
        board.setWire(1, 2, true);
        board.lift(0);
        board.lift(1);
        board.place(1, 16, 5, 0);
        board.place(0, 2, 5, 0);
        CHECK.same("one round", board.routeAll(2), 1);
        CHECK.same("the nearest one first", Boards.told(board, 0), "t 102 103 104 105 106");
        CHECK.same("from there to the other one", Boards.told(board, 1), "t 106 107 108 109 110 111 112 113 114 115 116");
        CHECK.same("two items", board.items(), 2);
        board.lift(0);
        board.setWire(0, 1, false);
        CHECK.same("they belong to the lowest placed pad", board.netAt(104), 0);
        Coppertrace part = Boards.wired(false, 2, 5, 6, 5, 10, 5);
        part.setWire(1, 2, true);
        part.lift(0);
        part.routeAll(1);
        part.setWire(0, 1, false);
        part.setWire(1, 2, false);
        CHECK.same("a pad that is not placed is not the lowest placed one", part.netAt(108), 1);
        CHECK.same("nothing came to the lifted one", part.items(), 1);
    }

    private static void itemsUsedUpByRounds() {
        Coppertrace board = Boards.wired(false, 2, 5, 6, 7, 10, 5, 14, 5);
        board.setWire(2, 3, true);
        for (int item = 0; item < 149; item++) {
            board.via(2, 10, 5);
            board.erase(item);
        }
        CHECK.same("two items, one is left: it ends at once", board.routeAll(6), 1);
        CHECK.same("nothing is made, not even for the second net", board.items(), 0);
        CHECK.same("both are open", board.opens(0) + board.opens(2), 2);
        board.setWire(0, 1, false);
        CHECK.same("one item, one is left", board.routeAll(6), 1);
        CHECK.same("made", board.items(), 1);
        CHECK.same("none is open", board.routeAll(6), 0);
        board.setWire(0, 1, true);
        CHECK.same("none is left", board.routeAll(6), 1);
    }

    /** A way of the items v t v t fits if four numbers are left, and does not if three are. */
    private static void itemsOfLongWays() {
        for (int left = 3; left <= 4; left++) {
            Coppertrace board = Boards.wired(false, 2, 5, 6, 5, 19, 0);
            board.track(2, 0, 4, 0, 14, true);
            board.setLocked(0, true);
            for (int item = 1; item < 150 - left; item++) {
                board.via(2, 19, 0);
                board.erase(item);
            }
            if (left == 3) {
                CHECK.thrown("four items, three are left", IllegalStateException.class, () -> board.route(0, 1));
                CHECK.same("a round ends at once", board.routeAll(2), 1);
                CHECK.same("ahead of the way", board.items(), 1);
            } else {
                CHECK.same("four items, four are left", board.route(0, 1), 18);
                CHECK.same("the last item", Boards.told(board, 149), "t 102 103");
            }
        }
    }

    private static void pricedWays() {
        // The first cell that is gone to has its price, the one where the way begins has none.
        Coppertrace first = Boards.wired(false, 2, 5, 6, 5, 19, 0);
        first.track(2, 0, 3, 0, 14, true);
        first.track(2, 1, 3, 0, 14, true);
        first.setLocked(1, true);
        CHECK.same("one round", first.routeAll(1), 1);
        CHECK.same("the first cell gone to", first.price(103), 20);
        CHECK.same("the beginning", first.price(102), 10);
        CHECK.same("the second cell", first.price(104), 10);
        Coppertrace begin = Boards.wired(false, 2, 5, 6, 5, 19, 0);
        begin.track(2, 0, 0, 5, 2, false);
        begin.setGap(2, 1);
        CHECK.same("one round from a near beginning", begin.routeAll(1), 1);
        CHECK.same("what was near is gone", begin.ripped(), 1);
        CHECK.same("the beginning costs nothing", begin.price(102), 10);
        // Prices lead the second search away: crossing at the same cell would cost 20 now.
        Coppertrace again = Boards.wired(false, 2, 5, 6, 5, 19, 0);
        again.track(2, 0, 4, 0, 14, true);
        again.track(2, 1, 4, 0, 14, true);
        again.setLocked(1, true);
        CHECK.same("one round through the wall", again.routeAll(1), 1);
        CHECK.same("straight at first", again.price(104), 20);
        again.erase(2);
        again.track(2, 0, 4, 0, 14, true);
        CHECK.same("one round through the new wall", again.routeAll(1), 1);
        CHECK.same("both walls were ripped", again.ripped(), 2);
        CHECK.same("not there again", again.price(104), 20);
        CHECK.same("but lower", again.price(84), 20);
        CHECK.same("and not higher", again.price(124), 10);
    }

    private static void prices() {
        Coppertrace board = new Coppertrace();
        CHECK.same("the first cell", board.price(0), 10);
        CHECK.same("the last cell", board.price(559), 10);
        CHECK.thrown("cell 560", NO_SUCH, () -> board.price(560));
        CHECK.thrown("cell -1", NO_SUCH, () -> board.price(-1));
        CHECK.same("nothing ripped", board.ripped(), 0);
    }
}
