/** Promises 10 to 17: what is put on the board. The dues are worked out by hand from the document. */
public final class BoardTest {
    private static final Class<IndexOutOfBoundsException> NO_SUCH = IndexOutOfBoundsException.class;
    private static final Class<IllegalArgumentException> ILLEGAL = IllegalArgumentException.class;
    private static final Class<IllegalStateException> STATE = IllegalStateException.class;
    private static final Class<UnsupportedOperationException> UNSUPPORTED = UnsupportedOperationException.class;
    private static final Check CHECK = new Check("BoardTest");

    public static void main(String[] args) {
        placeTurns();
        placeArguments();
        placeRoom();
        placeNearItems();
        lift();
        setGap();
        track();
        trackTooNear();
        via();
        fullBoard();
        erase();
        setLocked();
        pour();
        System.exit(CHECK.end());
    }

    private static void placeTurns() {
        int[] cells = {10 * 20 + 12, 12 * 20 + 10, 10 * 20 + 8, 8 * 20 + 10};
        for (int turn = 0; turn < 4; turn++) {
            for (boolean isThrough : new boolean[] {false, true}) {
                Coppertrace board = new Coppertrace();
                board.addPart(0, 3, isThrough);
                board.place(0, 10, 10, turn);
                int cell = cells[turn];
                CHECK.same("first pad, turn " + turn, board.netAt(210), 0);
                CHECK.same("last pad, turn " + turn, board.netAt(cell), 2);
                CHECK.same("middle pad, turn " + turn, board.netAt((210 + cell) / 2), 1);
                if (isThrough) {
                    CHECK.same("pad on the layer 1", board.netAt(280 + cell), 2);
                } else {
                    CHECK.thrown("no pad on the layer 1", java.util.NoSuchElementException.class,
                            () -> board.netAt(280 + cell));
                }
            }
        }
    }

    private static void placeArguments() {
        Coppertrace board = new Coppertrace();
        board.addPart(0, 6, false);
        int[][] wrong = {{-1, 0, 0}, {20, 0, 0}, {0, -1, 0}, {0, 14, 0}, {0, 0, -1}, {0, 0, 4},
            {Integer.MAX_VALUE, 0, 0}, {0, Integer.MIN_VALUE, 0}};
        for (int[] at : wrong) {
            CHECK.thrown("place out of range", ILLEGAL, () -> board.place(0, at[0], at[1], at[2]));
            CHECK.thrown("place of no part", NO_SUCH, () -> board.place(1, at[0], at[1], at[2]));
        }
        CHECK.thrown("place of part -1", NO_SUCH, () -> board.place(-1, 0, 0, 0));
        int[][] outside = {{15, 0, 0}, {0, 9, 1}, {4, 0, 2}, {0, 4, 3}};
        int[][] inside = {{14, 0, 0}, {0, 8, 1}, {5, 0, 2}, {0, 5, 3}};
        for (int k = 0; k < 4; k++) {
            int[] out = outside[k];
            int[] in = inside[k];
            CHECK.thrown("pads off the board", UNSUPPORTED, () -> board.place(0, out[0], out[1], out[2]));
            CHECK.same("pads just on the board", board.place(0, in[0], in[1], in[2]), 0);
        }
        CHECK.same("where it was before is free", board.lift(0), true);
    }

    private static void placeRoom() {
        Coppertrace board = new Coppertrace();
        board.addPart(0, 2, false);
        board.addPart(1, 2, true);
        board.setName(0, 'N');
        board.setName(2, 'N');
        board.place(0, 5, 5, 0);
        int[][] near = {{7, 5, 0}, {3, 5, 0}, {5, 6, 0}, {7, 6, 1}, {4, 4, 2}, {5, 5, 0}, {8, 5, 2}};
        for (int[] at : near) {
            CHECK.thrown("nearer than 2 to another part's pad", UNSUPPORTED,
                    () -> board.place(1, at[0], at[1], at[2]));
        }
        CHECK.same("just 2 away to the right", board.place(1, 8, 5, 0), 3);
        CHECK.same("just 2 away above", board.place(1, 5, 7, 0), 2);
        CHECK.same("near to its own old pads", board.place(1, 6, 7, 0), 3);
        CHECK.same("again at the same place", board.place(1, 6, 7, 0), 3);
        CHECK.thrown("kept where it was", UNSUPPORTED, () -> board.place(1, 19, 0, 0));
        CHECK.same("still there", board.netAt(7 * 20 + 6), 0);
        // Gaps are left aside between pads: these are too near to each other, but may stand so.
        board.setGap(1, 2);
        CHECK.same("gaps aside", board.place(1, 8, 5, 0), 3);
        CHECK.same("but told: pad 1 is too near to pad 0 of its own part, and to pad 2", board.gaps(), 2);
    }

    private static void placeNearItems() {
        Coppertrace board = Boards.singles(2, false);
        board.addPart(0, 1, true);
        board.track(0, 1, 3, 5, 4, false);
        CHECK.same("a surface pad over a track of the layer 1", board.place(1, 4, 5, 0), 0);
        CHECK.thrown("a through pad over it", UNSUPPORTED, () -> board.place(2, 6, 5, 0));
        CHECK.same("a through pad next to it, gap 0", board.place(2, 7, 5, 0), 0);
        board.setGap(2, 1);
        CHECK.thrown("next to it, gap 1", UNSUPPORTED, () -> board.place(2, 7, 4, 0));
        CHECK.same("farther than the gap", board.place(2, 8, 4, 0), 0);
        board.setGap(0, 2);
        CHECK.thrown("the greater gap of both nets counts", UNSUPPORTED, () -> board.place(2, 8, 4, 0));
        board.setWire(0, 2, true);
        CHECK.same("items of its own net do not matter", board.place(2, 6, 5, 0), 0);
        board.lift(2);
        board.track(1, 0, 10, 10, 2, true);
        CHECK.thrown("a track of another net", UNSUPPORTED, () -> board.place(2, 8, 9, 0));
        board.erase(1);
        CHECK.same("an erased one", board.place(2, 8, 9, 0), 0);
    }

    private static void lift() {
        Coppertrace board = Boards.singles(2, true);
        board.place(0, 3, 3, 0);
        CHECK.same("not placed", board.lift(1), false);
        CHECK.same("placed", board.lift(0), true);
        CHECK.same("lifted already", board.lift(0), false);
        CHECK.thrown("its pad is gone", java.util.NoSuchElementException.class, () -> board.netAt(63));
        CHECK.same("its place is free", board.place(1, 3, 3, 2), 0);
        board.track(1, 0, 3, 3, 5, false);
        CHECK.same("items stay behind a lift", board.lift(1) && board.items() == 1, true);
        CHECK.thrown("lift of part 2", NO_SUCH, () -> board.lift(2));
        CHECK.thrown("lift of part -1", NO_SUCH, () -> board.lift(-1));
    }

    private static void setGap() {
        Coppertrace board = Boards.singles(3, false);
        CHECK.same("0 at first", board.setGap(0, 2), 0);
        CHECK.same("then 2", board.setGap(0, 1), 2);
        CHECK.same("then 1", board.setGap(0, 0), 1);
        board.setWire(0, 2, true);
        board.track(0, 0, 0, 0, 5, false);
        board.track(1, 0, 0, 2, 5, false);
        CHECK.same("no gap", board.gaps(), 0);
        board.setGap(2, 2);
        CHECK.same("the gap of a pin is one of its net", board.gaps(), 1);
        board.setGap(2, 1);
        CHECK.same("2 away is enough for 1", board.gaps(), 0);
        board.setGap(1, 2);
        CHECK.same("the other net's gap", board.gaps(), 1);
        CHECK.thrown("gap 3", ILLEGAL, () -> board.setGap(0, 3));
        CHECK.thrown("gap -1", ILLEGAL, () -> board.setGap(0, -1));
        CHECK.thrown("gap of pin 3", NO_SUCH, () -> board.setGap(3, 3));
        CHECK.thrown("gap of pin -1", NO_SUCH, () -> board.setGap(-1, 0));
    }

    private static void track() {
        Coppertrace board = Boards.singles(1, false);
        CHECK.same("the whole row", board.track(0, 1, 0, 13, 20, false), 0);
        CHECK.same("the whole column", board.track(0, 0, 19, 0, 14, true), 1);
        CHECK.same("two cells", board.track(0, 0, 0, 0, 2, true), 2);
        CHECK.same("first of the row", board.cellOf(0, 0), 280 + 260);
        CHECK.same("last of the row", board.cellOf(0, 19), 559);
        CHECK.same("last of the column", board.cellOf(1, 13), 279);
        CHECK.same("last of two", board.cellOf(2, 1), 20);
        int[][] wrong = {{-1, 0, 0, 2}, {2, 0, 0, 2}, {0, -1, 0, 2}, {0, 20, 0, 2}, {0, 0, -1, 2}, {0, 0, 14, 2},
            {0, 0, 0, 1}, {0, 0, 0, 0}, {0, 0, 0, -3}, {0, 0, 0, 21}, {0, 0, 0, Integer.MAX_VALUE}};
        for (int[] at : wrong) {
            for (boolean isUp : new boolean[] {false, true}) {
                CHECK.thrown("track out of range", ILLEGAL,
                        () -> board.track(0, at[0], at[1], at[2], at[3], isUp));
                CHECK.thrown("of no pin too", NO_SUCH, () -> board.track(1, at[0], at[1], at[2], at[3], isUp));
            }
        }
        CHECK.thrown("leaves to the right", ILLEGAL, () -> board.track(0, 0, 1, 0, 20, false));
        CHECK.thrown("leaves upwards", ILLEGAL, () -> board.track(0, 0, 0, 0, 15, true));
        CHECK.thrown("leaves upwards from row 13", ILLEGAL, () -> board.track(0, 0, 0, 13, 2, true));
        CHECK.thrown("track of pin -1", NO_SUCH, () -> board.track(-1, 0, 0, 0, 2, true));
        CHECK.same("over its own copper", board.track(0, 0, 0, 0, 20, false), 3);
    }

    private static void trackTooNear() {
        Coppertrace board = Boards.singles(3, false);
        board.setWire(0, 1, true);
        board.place(0, 5, 5, 0);
        board.place(2, 10, 10, 0);
        board.via(2, 2, 2);
        CHECK.same("through a pad of its own net", board.track(1, 0, 4, 5, 3, false), 1);
        CHECK.thrown("through a pad of another net", UNSUPPORTED, () -> board.track(0, 0, 10, 8, 4, true));
        CHECK.same("below it on the layer 1", board.track(0, 1, 10, 8, 4, true), 2);
        CHECK.thrown("through a via on the layer 0", UNSUPPORTED, () -> board.track(0, 0, 0, 2, 3, false));
        CHECK.thrown("through a via on the layer 1", UNSUPPORTED, () -> board.track(0, 1, 0, 2, 3, false));
        CHECK.same("next to the via", board.track(0, 1, 0, 2, 2, false), 3);
        CHECK.thrown("across a track of another net", UNSUPPORTED, () -> board.track(2, 0, 5, 5, 6, true));
        board.setGap(2, 1);
        CHECK.thrown("slantwise next to the pad, gap 1", UNSUPPORTED, () -> board.track(0, 0, 11, 11, 2, false));
        CHECK.same("two away from the pad, gap 1", board.track(0, 0, 12, 11, 2, false), 4);
        CHECK.same("poured copper does not matter", board.pour(2, 0, 8, 8, 12, 10), 0);
        CHECK.same("through poured copper", board.track(0, 0, 8, 8, 3, false), 5);
    }

    private static void via() {
        Coppertrace board = Boards.singles(3, false);
        board.place(1, 5, 5, 0);
        CHECK.same("a via", board.via(0, 19, 13), 0);
        CHECK.same("its cell in the layer 0", board.cellOf(0, 0), 279);
        CHECK.same("its cell in the layer 1", board.cellOf(0, 1), 559);
        int[][] wrong = {{-1, 0}, {20, 0}, {0, -1}, {0, 14}, {Integer.MAX_VALUE, Integer.MAX_VALUE}};
        for (int[] at : wrong) {
            CHECK.thrown("via out of range", ILLEGAL, () -> board.via(0, at[0], at[1]));
            CHECK.thrown("of no pin too", NO_SUCH, () -> board.via(3, at[0], at[1]));
        }
        CHECK.thrown("via of pin -1", NO_SUCH, () -> board.via(-1, 0, 0));
        CHECK.thrown("in a pad of another net", UNSUPPORTED, () -> board.via(0, 5, 5));
        CHECK.same("in its own pad", board.via(1, 5, 5), 1);
        board.track(2, 1, 0, 9, 6, false);
        CHECK.thrown("on a track of the layer 1", UNSUPPORTED, () -> board.via(0, 3, 9));
        CHECK.same("next to it", board.via(0, 3, 8), 3);
        board.setGap(2, 2);
        CHECK.thrown("two away, gap 2", UNSUPPORTED, () -> board.via(0, 7, 11));
        CHECK.same("three away, gap 2", board.via(0, 8, 12), 4);
    }

    private static void fullBoard() {
        Coppertrace board = Boards.singles(2, false);
        for (int item = 0; item < 150; item++) {
            CHECK.same("item " + item, item % 2 == 0 ? board.via(0, 3, 3) : board.track(0, 0, 3, 3, 2, true), item);
            if (item % 3 == 0) {
                board.erase(item);
            }
        }
        CHECK.same("a hundred are there", board.items(), 100);
        CHECK.thrown("a via more", STATE, () -> board.via(0, 5, 5));
        CHECK.thrown("a track more", STATE, () -> board.track(0, 0, 5, 5, 2, true));
        CHECK.thrown("a via too near", STATE, () -> board.via(1, 3, 3));
        CHECK.thrown("a track too near", STATE, () -> board.track(1, 0, 3, 3, 2, true));
        CHECK.thrown("a via off the board", ILLEGAL, () -> board.via(1, 3, 14));
        CHECK.thrown("a track off the board", ILLEGAL, () -> board.track(1, 0, 3, 13, 2, true));
        CHECK.thrown("item 150", NO_SUCH, () -> board.erase(150));
    }

    private static void erase() {
        Coppertrace board = Boards.singles(2, false);
        board.track(0, 0, 0, 0, 5, false);
        board.via(0, 4, 0);
        board.setLocked(0, true);
        CHECK.same("a locked item is erased", board.erase(0), true);
        CHECK.same("not there any more", board.erase(0), false);
        CHECK.same("one is left", board.items(), 1);
        CHECK.same("its number is not given again", board.track(1, 0, 0, 0, 2, false), 2);
        CHECK.same("not counted as taken away by a search", board.ripped(), 0);
        CHECK.thrown("no item 3", NO_SUCH, () -> board.erase(3));
        CHECK.thrown("no item -1", NO_SUCH, () -> board.erase(-1));
    }

    private static void setLocked() {
        Coppertrace board = Boards.singles(1, false);
        board.via(0, 0, 0);
        board.via(0, 1, 1);
        CHECK.same("not locked at first", board.setLocked(0, false), false);
        CHECK.same("still not", board.setLocked(0, true), false);
        CHECK.same("locked", board.setLocked(0, true), true);
        CHECK.same("still locked", board.setLocked(0, false), true);
        CHECK.same("the other one is not", board.setLocked(1, false), false);
        board.erase(1);
        CHECK.thrown("not there any more", STATE, () -> board.setLocked(1, true));
        CHECK.thrown("no item 2", NO_SUCH, () -> board.setLocked(2, true));
        CHECK.thrown("no item -1", NO_SUCH, () -> board.setLocked(-1, true));
    }

    private static void pour() {
        Coppertrace board = Boards.singles(1, false);
        int[][] wrong = {{-1, 0, 0, 0, 0}, {2, 0, 0, 0, 0}, {0, -1, 0, 0, 0}, {0, 0, -1, 0, 0}, {0, 0, 0, 20, 0},
            {0, 0, 0, 0, 14}, {0, 3, 0, 2, 0}, {0, 0, 3, 0, 2}, {0, 20, 0, 20, 0}, {0, 0, 14, 0, 14}, {0, 0, 0, -1, 0}};
        for (int[] at : wrong) {
            CHECK.thrown("pour out of range", ILLEGAL, () -> board.pour(0, at[0], at[1], at[2], at[3], at[4]));
            CHECK.thrown("of no pin too", NO_SUCH, () -> board.pour(1, at[0], at[1], at[2], at[3], at[4]));
        }
        CHECK.thrown("pour of pin -1", NO_SUCH, () -> board.pour(-1, 0, 0, 0, 1, 1));
        CHECK.same("all of a layer", board.pour(0, 1, 0, 0, 19, 13), 0);
        CHECK.same("a single cell", board.pour(0, 0, 7, 7, 7, 7), 1);
        CHECK.same("a row", board.pour(0, 0, 0, 13, 19, 13), 2);
        CHECK.same("a column", board.pour(0, 0, 19, 0, 19, 13), 3);
        CHECK.thrown("a fifth area", STATE, () -> board.pour(0, 0, 0, 0, 1, 1));
        CHECK.thrown("a wrong fifth area", ILLEGAL, () -> board.pour(0, 0, 1, 0, 0, 1));
        board.via(0, 7, 7);
        CHECK.same("poured all over the layer", board.poured(0), 280);
        CHECK.same("poured one cell", board.poured(1), 1);
        CHECK.same("dropped without copper of its net", board.poured(2), 0);
    }
}
