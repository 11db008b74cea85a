import java.util.NoSuchElementException;

/** Boards that tests begin with, and short words for what they have. */
final class Boards {
    private Boards() {
    }

    /** Parts of one pin each, on the page 0, none of them placed: the number of a part is that of its pin. */
    static Coppertrace singles(int count, boolean isThrough) {
        Coppertrace board = new Coppertrace();
        for (int part = 0; part < count; part++) {
            board.addPart(0, 1, isThrough);
        }
        return board;
    }

    /** Such parts, placed at columns and rows, each pin its own net. */
    static Coppertrace placed(boolean isThrough, int... places) {
        Coppertrace board = singles(places.length / 2, isThrough);
        for (int part = 0; 2 * part < places.length; part++) {
            board.place(part, places[2 * part], places[2 * part + 1], 0);
        }
        return board;
    }

    /** Such parts, the pins 0 and 1 being wired. */
    static Coppertrace wired(boolean isThrough, int... places) {
        Coppertrace board = placed(isThrough, places);
        board.setWire(0, 1, true);
        return board;
    }

    /** What an item is, and its cells. */
    static String told(Coppertrace board, int item) {
        StringBuilder all = new StringBuilder();
        all.append(board.kindOf(item));
        for (int index = 0; index < 21; index++) {
            try {
                int cell = board.cellOf(item, index);
                all.append(' ').append(cell);
            } catch (NoSuchElementException e) {
                return all.toString();
            }
        }
        return all.toString();
    }

    /** Makes items and takes them away again, until just so many numbers are left of the 150. */
    static void useUp(Coppertrace board, int pin, int column, int row, int left) {
        int item = 0;
        while (item < 150 - left) {
            item = board.via(pin, column, row) + 1;
            board.erase(item - 1);
        }
    }
}
