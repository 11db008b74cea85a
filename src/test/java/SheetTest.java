/** Promises 1 to 9: the sheet. The dues are worked out by hand from the document. */
public final class SheetTest {
    private static final Class<IndexOutOfBoundsException> NO_SUCH = IndexOutOfBoundsException.class;
    private static final Class<IllegalArgumentException> ILLEGAL = IllegalArgumentException.class;
    private static final Check CHECK = new Check("SheetTest");

    public static void main(String[] args) {
        newObject();
        addPart();
        setKind();
        setWire();
        setName();
        nets();
        netState();
        swap();
        swapWiresAndItems();
        System.exit(CHECK.end());
    }

    private static void newObject() {
        Coppertrace board = new Coppertrace();
        CHECK.same("nets of nothing", board.nets(), 0);
        CHECK.same("items of nothing", board.items(), 0);
        CHECK.same("ripped of nothing", board.ripped(), 0);
        CHECK.same("air of nothing", board.airLength(), 0);
        CHECK.same("track length of nothing", board.trackLength(), 0L);
        CHECK.same("as drawn of nothing", board.isAsDrawn(), true);
        CHECK.same("consistent of nothing", board.isConsistent(), true);
        CHECK.thrown("a pin of nothing", NO_SUCH, () -> board.netOf(0));
        CHECK.thrown("a part of nothing", NO_SUCH, () -> board.lift(0));
        CHECK.thrown("an item of nothing", NO_SUCH, () -> board.erase(0));
        CHECK.thrown("an area of nothing", NO_SUCH, () -> board.poured(0));
        Coppertrace other = new Coppertrace();
        other.addPart(0, 6, true);
        CHECK.same("one object's parts in another one", board.nets(), 0);
    }

    private static void addPart() {
        Coppertrace board = new Coppertrace();
        int[][] wrong = {{-1, 1}, {3, 1}, {0, 0}, {0, 7}, {0, -1}, {Integer.MIN_VALUE, 1}, {0, Integer.MAX_VALUE}};
        for (int[] pair : wrong) {
            CHECK.thrown("addPart out of range", ILLEGAL, () -> board.addPart(pair[0], pair[1], true));
        }
        CHECK.same("first part", board.addPart(0, 1, false), 0);
        CHECK.same("second part", board.addPart(2, 6, true), 1);
        CHECK.same("third part", board.addPart(1, 3, false), 7);
        for (int part = 3; part < 12; part++) {
            CHECK.same("part " + part, board.addPart(0, 6, true), 10 + 6 * (part - 3));
        }
        CHECK.same("nets of 64 pins", board.nets(), 64);
        CHECK.thrown("a thirteenth part", IllegalStateException.class, () -> board.addPart(0, 1, false));
        CHECK.thrown("a wrong thirteenth part", ILLEGAL, () -> board.addPart(0, 7, false));
        CHECK.same("a new part is not placed", board.lift(0), false);
        Coppertrace full = new Coppertrace();
        for (int part = 0; part < 12; part++) {
            CHECK.same("full part", full.addPart(part % 3, 6, false), 6 * part);
        }
        CHECK.same("last pin's net", full.netOf(71), 71);
        CHECK.thrown("pin 72", NO_SUCH, () -> full.netOf(72));
    }

    private static void setKind() {
        Coppertrace board = new Coppertrace();
        board.addPart(0, 2, false);
        CHECK.same("passive at first", board.setKind(1, 'i'), 'p');
        CHECK.same("then an input", board.setKind(1, 'o'), 'i');
        CHECK.same("then an output", board.setKind(1, 's'), 'o');
        CHECK.same("then a supply", board.setKind(1, 'p'), 's');
        CHECK.same("the same again", board.setKind(1, 'p'), 'p');
        CHECK.same("the other pin's own kind", board.setKind(0, 'p'), 'p');
        for (char kind : new char[] {'-', 'I', 'x', ' ', 0, 'u', 'c', 65535}) {
            CHECK.thrown("kind " + (int) kind, ILLEGAL, () -> board.setKind(0, kind));
        }
        CHECK.thrown("kind of no pin", NO_SUCH, () -> board.setKind(2, 'x'));
        CHECK.thrown("kind of pin -1", NO_SUCH, () -> board.setKind(-1, 'i'));
    }

    private static void setWire() {
        Coppertrace board = new Coppertrace();
        board.addPart(0, 3, false);
        CHECK.same("no wire before", board.setWire(0, 2, true), false);
        CHECK.same("wired, seen from the other end", board.setWire(2, 0, true), true);
        CHECK.same("nets with a wire", board.nets(), 2);
        CHECK.same("not wired, but of one net", board.setWire(1, 2, false), false);
        CHECK.same("taken away", board.setWire(0, 2, false), true);
        CHECK.same("taken away twice", board.setWire(2, 0, false), false);
        CHECK.same("nets without", board.nets(), 3);
        board.setWire(0, 1, true);
        board.setWire(1, 2, true);
        CHECK.same("of one net by two wires is no wire", board.setWire(0, 2, false), false);
        CHECK.thrown("wired with itself", ILLEGAL, () -> board.setWire(1, 1, true));
        CHECK.thrown("wire from no pin", NO_SUCH, () -> board.setWire(3, 0, true));
        CHECK.thrown("wire to no pin", NO_SUCH, () -> board.setWire(0, -1, true));
        CHECK.thrown("wire of no pin with itself", NO_SUCH, () -> board.setWire(3, 3, false));
    }

    private static void setName() {
        Coppertrace board = new Coppertrace();
        board.addPart(0, 3, false);
        board.addPart(1, 3, false);
        CHECK.same("no name at first", board.setName(0, 'a'), '-');
        CHECK.same("another name", board.setName(0, 'z'), 'a');
        CHECK.same("a great name", board.setName(0, 'Z'), 'z');
        CHECK.same("no name again", board.setName(0, '-'), 'Z');
        CHECK.same("none before", board.setName(0, '-'), '-');
        for (char name : new char[] {'`', '{', '@', '[', '0', ' ', '_', 0, 228, 65535}) {
            CHECK.thrown("name " + (int) name, ILLEGAL, () -> board.setName(0, name));
        }
        CHECK.thrown("name of no pin", NO_SUCH, () -> board.setName(6, 'a'));
        CHECK.thrown("wrong name of no pin", NO_SUCH, () -> board.setName(-1, '!'));
        board.setName(0, 'q');
        board.setName(2, 'q');
        board.setName(4, 'q');
        CHECK.same("a small name on its page", board.netOf(2), 0);
        CHECK.same("a small name on another page", board.netOf(4), 4);
        board.setName(1, 'Q');
        board.setName(5, 'Q');
        CHECK.same("a great name on another page", board.netOf(5), 1);
        CHECK.same("small and great names differ", board.netOf(1), 1);
        CHECK.same("nets by names", board.nets(), 4);
    }

    private static void nets() {
        Coppertrace board = new Coppertrace();
        board.addPart(0, 4, false);
        board.addPart(2, 4, true);
        board.setWire(7, 3, true);
        board.setName(3, 'B');
        board.setName(5, 'B');
        board.setWire(5, 1, true);
        CHECK.same("net by three steps", board.netOf(7), 1);
        CHECK.same("net of the middle", board.netOf(5), 1);
        CHECK.same("net of the lowest", board.netOf(1), 1);
        CHECK.same("number of nets", board.nets(), 5);
        board.setName(3, 'C');
        CHECK.same("net parted by a name", board.netOf(7), 3);
        CHECK.same("number of nets behind that", board.nets(), 6);
        board.setWire(0, 3, true);
        CHECK.same("the lowest pin numbers the net", board.netOf(7), 0);
        CHECK.thrown("net of pin 8", NO_SUCH, () -> board.netOf(8));
        CHECK.thrown("net of pin -1", NO_SUCH, () -> board.netOf(-1));
    }

    private static void netState() {
        Coppertrace board = new Coppertrace();
        board.addPart(0, 4, false);
        CHECK.same("one pin alone", board.netState(0), 'u');
        board.setKind(0, 'i');
        CHECK.same("one input alone", board.netState(0), 'f');
        board.setKind(0, 'o');
        CHECK.same("one output alone", board.netState(0), 'u');
        board.setWire(0, 1, true);
        CHECK.same("output and passive", board.netState(1), '-');
        board.setKind(1, 'o');
        CHECK.same("two outputs", board.netState(1), 'c');
        board.setWire(1, 2, true);
        board.setKind(2, 'i');
        CHECK.same("two outputs and an input", board.netState(2), 'c');
        board.setKind(0, 'i');
        CHECK.same("an output and inputs", board.netState(0), '-');
        board.setKind(1, 's');
        CHECK.same("a supply and inputs", board.netState(0), '-');
        board.setKind(1, 'p');
        CHECK.same("inputs and a passive", board.netState(0), 'f');
        board.setKind(0, 'p');
        board.setKind(2, 'p');
        CHECK.same("passives", board.netState(0), '-');
        board.setKind(0, 's');
        board.setKind(1, 's');
        CHECK.same("two supplies", board.netState(0), '-');
        board.setKind(3, 's');
        CHECK.same("one supply alone", board.netState(3), 'u');
        CHECK.thrown("state of pin 4", NO_SUCH, () -> board.netState(4));
        CHECK.thrown("state of pin -1", NO_SUCH, () -> board.netState(-1));
    }

    private static void swap() {
        Coppertrace board = new Coppertrace();
        board.addPart(0, 3, false);
        board.addPart(0, 2, false);
        board.setName(0, 'X');
        board.setName(4, 'X');
        board.setKind(0, 'o');
        board.setWire(1, 3, true);
        board.setWire(0, 2, true);
        board.place(0, 0, 0, 0);
        CHECK.same("air before", board.place(1, 10, 3, 0), (10 - 1 + 3) + (11 - 2 + 3) + 2);
        // Pin 1 now has the name, the wire to 2 and the kind; pin 0 the wire to 3.
        CHECK.same("swap answers the air length", board.swap(0, 1), (10 - 0 + 3) + (11 - 2 + 3) + 1);
        CHECK.same("name went along", board.netOf(4), 1);
        CHECK.same("wire went along", board.netOf(2), 1);
        CHECK.same("the other pin's wire too", board.netOf(3), 0);
        CHECK.same("kind went along", board.setKind(1, 'o'), 'o');
        CHECK.same("and the other kind", board.setKind(0, 'p'), 'p');
        CHECK.same("no name is left", board.setName(0, '-'), '-');
        CHECK.same("swapped back", board.swap(1, 0), 12 + 12 + 2);
        CHECK.same("the wire is back", board.setWire(0, 2, true), true);
        CHECK.thrown("swap with itself", ILLEGAL, () -> board.swap(2, 2));
        CHECK.thrown("swap of two parts' pins", ILLEGAL, () -> board.swap(2, 3));
        CHECK.thrown("swap of no pin", NO_SUCH, () -> board.swap(5, 0));
        CHECK.thrown("swap with no pin", NO_SUCH, () -> board.swap(0, -1));
        CHECK.thrown("swap of no pin with itself", NO_SUCH, () -> board.swap(5, 5));
    }

    private static void swapWiresAndItems() {
        Coppertrace board = new Coppertrace();
        board.addPart(0, 2, true);
        board.addPart(0, 1, true);
        board.setWire(0, 1, true);
        board.setWire(0, 2, true);
        board.swap(0, 1);
        CHECK.same("the wire between both stays", board.setWire(0, 1, false), true);
        CHECK.same("one end went along", board.setWire(1, 2, true), true);
        CHECK.same("and left its pin", board.setWire(0, 2, false), false);
        board.setGap(0, 2);
        board.track(0, 0, 5, 5, 3, false);
        board.pour(0, 0, 5, 4, 7, 6);
        board.swap(0, 1);
        // Pins 0 and 2 are one net now, pin 1 is alone; item, area and gap are still those of pin 0.
        CHECK.same("the gap stays", board.setGap(0, 2), 2);
        CHECK.same("no gap came", board.setGap(1, 0), 0);
        CHECK.same("the item's net", board.netAt(105), 0);
        CHECK.same("the area's net", board.netAt(85), 0);
        board.setWire(0, 2, false);
        board.setWire(1, 2, true);
        CHECK.same("net of the item's pin, alone", board.netAt(106), 0);
        CHECK.same("net of the others", board.netOf(2), 1);
    }
}
