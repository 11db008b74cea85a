/**
 * The edges of the promises 1 to 9 and of the terms "Parts and pins" and "Nets": the smallest and the
 * largest that is allowed, nothing at all, and all that there can be. RefusedTest has what is beyond.
 */
public final class EdgeSheetTest {
    private static final Check CHECK = new Check("EdgeSheetTest");

    public static void main(String[] args) {
        emptySheet();
        pagesAndPins();
        twelveParts();
        lastPinOfAll();
        firstKinds();
        kindsAtTheEdge();
        namesAtTheEdge();
        namesOfPages();
        noNameIsNoName();
        nameInPlaceOfAnother();
        wiresOfFirstAndLast();
        wiresAndNamesTogether();
        netInOneStep();
        netInManySteps();
        netInFallingSteps();
        netAcrossPages();
        lowestPinLeaves();
        outputsOfAState();
        inputsOfAState();
        aloneInAState();
        statesOfTheLargestNet();
        statesInTheirOrder();
        swapInAPart();
        swapOfWiresBetween();
        swapOfSharedWires();
        swapOfNames();
        swapOffTheBoard();
        swapTellsTheNewAir();
        lastCallOfAll();
        System.exit(CHECK.end());
    }

    private static Coppertrace largest() {
        Coppertrace board = new Coppertrace();
        for (int part = 0; part < 12; part++) {
            board.addPart(part % 3, 6, part % 2 == 1);
        }
        return board;
    }

    private static Coppertrace onePart(int pins) {
        Coppertrace board = new Coppertrace();
        board.addPart(1, pins, true);
        return board;
    }

    /** "Creates an empty sheet and an empty board." */
    private static void emptySheet() {
        Coppertrace board = new Coppertrace();
        CHECK.same("nets", board.nets(), 0);
        CHECK.same("items", board.items(), 0);
        CHECK.same("ripped", board.ripped(), 0);
        CHECK.same("shorts", board.shorts(), 0);
        CHECK.same("gaps", board.gaps(), 0);
        CHECK.same("air", board.airLength(), 0);
        CHECK.same("drill way", board.drillWay(), 0);
        CHECK.same("track length", board.trackLength(), 0L);
        CHECK.same("as drawn", board.isAsDrawn(), true);
        CHECK.same("consistent", board.isConsistent(), true);
        CHECK.same("rounds", board.routeAll(6), 0);
        CHECK.same("price of the first cell", board.price(0), 10);
        CHECK.same("price of the last cell", board.price(559), 10);
        CHECK.same("the first pin", board.addPart(0, 1, false), 0);
    }

    /** "the page, 0 to 2", "the number of pins, 1 to 6" */
    private static void pagesAndPins() {
        for (int page = 0; page <= 2; page++) {
            Coppertrace board = new Coppertrace();
            int due = 0;
            for (int pins = 1; pins <= 6; pins++) {
                CHECK.same(pins + " pins on the page " + page, board.addPart(page, pins, pins % 2 == 0), due);
                due += pins;
                CHECK.same("pins of all", board.nets(), due);
            }
        }
    }

    /** "At most 12 parts are there, numbered from 0" */
    private static void twelveParts() {
        Coppertrace board = new Coppertrace();
        for (int part = 0; part < 12; part++) {
            CHECK.same("first pin of the part " + part, board.addPart(2, 1, true), part);
            CHECK.same("the part " + part + " is not placed", board.lift(part), false);
        }
        CHECK.same("the part 0 is placed", board.place(0, 0, 0, 0), 0);
        CHECK.same("the part 11 is placed", board.place(11, 19, 13, 3), 0);
        CHECK.same("and has the pin 11", board.netAt(559), 11);
        CHECK.same("it was placed", board.lift(11), true);
    }

    /** "pins are numbered from 0 in the order in which they come, those of a part in a row" */
    private static void lastPinOfAll() {
        Coppertrace board = largest();
        CHECK.same("pins of 12 parts of 6", board.nets(), 72);
        CHECK.same("its net", board.netOf(71), 71);
        CHECK.same("its state", board.netState(71), 'u');
        CHECK.same("its kind", board.setKind(71, 'i'), 'p');
        CHECK.same("its name", board.setName(71, 'Z'), '-');
        CHECK.same("its gap", board.setGap(71, 2), 0);
        CHECK.same("its gap then", board.setGap(71, 0), 2);
        CHECK.same("its wire", board.setWire(71, 0, true), false);
        CHECK.same("its new net", board.netOf(71), 0);
        CHECK.same("its part", board.swap(66, 71), 0);
        CHECK.same("the wire went along", board.netOf(66), 0);
        board.place(11, 19, 13, 2);
        CHECK.same("its pad, five columns to the left", board.netAt(274), 71);
        CHECK.same("its track", board.track(71, 1, 14, 12, 2, true), 0);
        CHECK.same("its via", board.via(71, 14, 12), 1);
        CHECK.same("its area", board.pour(71, 0, 0, 0, 19, 13), 0);
        CHECK.same("its path to itself", board.path(71, 71), 0);
        CHECK.same("joined with itself", board.areJoined(71, 71) && board.areJoinedByPaint(71, 71), true);
        CHECK.same("its open places", board.opens(71), 0);
        board.setWire(70, 71, true);
        CHECK.same("its way to the pad next to it", board.route(71, 70), 2);
    }

    /** "passive at first" */
    private static void firstKinds() {
        Coppertrace board = largest();
        for (int pin = 0; pin < 72; pin++) {
            CHECK.same("kind of the pin " + pin, board.setKind(pin, 'o'), 'p');
        }
    }

    /** "'i' an input, 'o' an output, 'p' passive, or 's' a supply" */
    private static void kindsAtTheEdge() {
        Coppertrace board = onePart(3);
        char before = 'p';
        for (char kind : new char[] {'i', 'o', 'p', 's', 's', 'i'}) {
            CHECK.same("kind before " + kind, board.setKind(2, kind), before);
            before = kind;
        }
        CHECK.same("the other pins' kinds", board.setKind(0, 'p') == 'p' && board.setKind(1, 'p') == 'p', true);
    }

    /** "a name, from 'a' to 'z' or from 'A' to 'Z'", "the name, or '-' for none" */
    private static void namesAtTheEdge() {
        Coppertrace board = onePart(2);
        char before = '-';
        for (char name : "azAZmM-Z-".toCharArray()) {
            CHECK.same("name before " + name, board.setName(1, name), before);
            before = name;
        }
        Coppertrace letters = onePart(2);
        for (char name = 'a'; name <= 'z'; name++) {
            char great = (char) (name - 'a' + 'A');
            letters.setName(0, name);
            letters.setName(1, great);
            CHECK.same(name + " and " + great + " differ", letters.nets(), 2);
            letters.setName(1, name);
            CHECK.same(name + " joins", letters.nets(), 1);
            letters.setName(0, great);
            letters.setName(1, great);
            CHECK.same(great + " joins", letters.nets(), 1);
        }
    }

    /** "joins all pins that have it, a small one only those on the same page" */
    private static void namesOfPages() {
        Coppertrace board = largest();
        for (int pin = 0; pin < 72; pin++) {
            board.setName(pin, 'k');
        }
        CHECK.same("a small name on three pages", board.nets(), 3);
        CHECK.same("the last pin of the page 0", board.netOf(59), 0);
        CHECK.same("the last pin of the page 1", board.netOf(65), 6);
        CHECK.same("the last pin of the page 2", board.netOf(71), 12);
        for (int pin = 0; pin < 72; pin++) {
            board.setName(pin, 'K');
        }
        CHECK.same("a great name on three pages", board.nets(), 1);
        CHECK.same("the last pin", board.netOf(71), 0);
        board.setName(0, '-');
        CHECK.same("without the first one", board.netOf(71), 1);
    }

    private static void noNameIsNoName() {
        Coppertrace board = onePart(6);
        board.setName(2, 'a');
        board.setName(3, 'a');
        board.setName(2, '-');
        board.setName(3, '-');
        CHECK.same("pins without a name are not joined by it", board.nets(), 6);
    }

    /** "Names a pin, in place of another name." */
    private static void nameInPlaceOfAnother() {
        Coppertrace board = onePart(3);
        board.setName(0, 'a');
        board.setName(1, 'a');
        board.setName(2, 'b');
        board.setName(1, 'b');
        CHECK.same("the old name is gone", board.netOf(1), 1);
        CHECK.same("the new one joins", board.netOf(2), 1);
    }

    /** "Returns whether they were." */
    private static void wiresOfFirstAndLast() {
        Coppertrace board = largest();
        CHECK.same("not wired", board.setWire(71, 0, false), false);
        CHECK.same("not wired still", board.setWire(0, 71, true), false);
        CHECK.same("wired", board.setWire(71, 0, true), true);
        CHECK.same("wired once, however often told", board.setWire(0, 71, false), true);
        CHECK.same("not wired any more", board.setWire(71, 0, false), false);
        CHECK.same("one net each", board.nets(), 72);
        CHECK.same("next to each other", board.setWire(0, 1, true), false);
        CHECK.same("which is no wire of 71", board.setWire(71, 1, false), false);
    }

    private static void wiresAndNamesTogether() {
        Coppertrace board = onePart(2);
        board.setWire(0, 1, true);
        board.setName(0, 'x');
        board.setName(1, 'x');
        CHECK.same("a name is no wire", board.setWire(0, 1, false), true);
        CHECK.same("still joined by the name", board.nets(), 1);
        board.setWire(0, 1, true);
        board.setName(0, '-');
        CHECK.same("still joined by the wire", board.nets(), 1);
        board.setWire(0, 1, false);
        CHECK.same("joined by nothing", board.nets(), 2);
    }

    /** "A net has all pins that are joined so, in one or more steps" */
    private static void netInOneStep() {
        Coppertrace board = onePart(4);
        board.setWire(1, 3, true);
        CHECK.same("the wired ones", board.netOf(3), 1);
        CHECK.same("the one between them", board.netOf(2), 2);
        CHECK.same("nets", board.nets(), 3);
    }

    private static void netInManySteps() {
        Coppertrace board = largest();
        for (int pin = 0; pin < 71; pin++) {
            board.setWire(pin, pin + 1, true);
        }
        CHECK.same("71 steps", board.netOf(71), 0);
        CHECK.same("one net", board.nets(), 1);
        board.setWire(35, 36, false);
        CHECK.same("cut in the middle", board.netOf(71), 36);
        CHECK.same("the lower half", board.netOf(35), 0);
        CHECK.same("two nets", board.nets(), 2);
    }

    private static void netInFallingSteps() {
        Coppertrace board = largest();
        for (int pin = 0; pin < 35; pin++) {
            board.setWire(pin, 71 - pin, true);
            board.setWire(71 - pin, pin + 1, true);
        }
        CHECK.same("steps to and fro", board.netOf(35), 0);
        CHECK.same("the last pin", board.netOf(71), 0);
        CHECK.same("what is not wired", board.netOf(36), 36);
        CHECK.same("nets", board.nets(), 2);
    }

    private static void netAcrossPages() {
        Coppertrace board = largest();
        board.setName(70, 'v');
        board.setName(12, 'v');
        board.setWire(12, 6, true);
        board.setName(6, 'V');
        board.setName(2, 'V');
        CHECK.same("a small name, a wire, a great name", board.netOf(70), 2);
        board.setName(6, 'v');
        CHECK.same("a small name on another page", board.netOf(70), 6);
    }

    /** "it has the number of its lowest pin" */
    private static void lowestPinLeaves() {
        Coppertrace board = onePart(4);
        board.setWire(3, 2, true);
        CHECK.same("the lower one", board.netOf(3), 2);
        board.setWire(3, 0, true);
        CHECK.same("a lower one comes", board.netOf(2), 0);
        board.setWire(3, 0, false);
        CHECK.same("and leaves", board.netOf(2), 2);
    }

    /** "'c', two or more outputs" */
    private static void outputsOfAState() {
        Coppertrace board = onePart(4);
        board.setWire(0, 1, true);
        board.setWire(1, 2, true);
        board.setKind(0, 'o');
        CHECK.same("one output", board.netState(2), '-');
        board.setKind(2, 'o');
        CHECK.same("two outputs", board.netState(1), 'c');
        board.setKind(1, 'o');
        CHECK.same("three outputs", board.netState(0), 'c');
        board.setKind(3, 'o');
        CHECK.same("an output of another net", board.netState(3), 'u');
        board.setWire(0, 1, false);
        board.setWire(1, 2, false);
        CHECK.same("one output in each net", board.netState(1), 'u');
    }

    /** "'f', an input, but neither an output nor a supply" */
    private static void inputsOfAState() {
        Coppertrace board = onePart(3);
        board.setWire(0, 1, true);
        board.setKind(0, 'i');
        CHECK.same("an input and a passive", board.netState(1), 'f');
        board.setKind(1, 'i');
        CHECK.same("two inputs", board.netState(1), 'f');
        board.setKind(1, 'o');
        CHECK.same("an input and an output", board.netState(0), '-');
        board.setKind(1, 's');
        CHECK.same("an input and a supply", board.netState(0), '-');
        board.setKind(0, 's');
        CHECK.same("two supplies", board.netState(0), '-');
        board.setKind(2, 'i');
        CHECK.same("an input alone", board.netState(2), 'f');
    }

    /** "'u', one pin alone; otherwise '-'" */
    private static void aloneInAState() {
        Coppertrace board = onePart(3);
        for (char kind : new char[] {'p', 'o', 's'}) {
            board.setKind(0, kind);
            CHECK.same("one " + kind + " alone", board.netState(0), 'u');
        }
        board.setWire(0, 1, true);
        CHECK.same("two are not alone", board.netState(0), '-');
        CHECK.same("the third one is", board.netState(2), 'u');
    }

    private static void statesOfTheLargestNet() {
        Coppertrace board = largest();
        for (int pin = 0; pin < 72; pin++) {
            board.setName(pin, 'N');
        }
        CHECK.same("72 passives", board.netState(71), '-');
        for (int pin = 0; pin < 71; pin++) {
            board.setKind(pin, 'i');
        }
        CHECK.same("71 inputs", board.netState(71), 'f');
        board.setKind(71, 'o');
        CHECK.same("71 inputs and the last one an output", board.netState(0), '-');
        board.setKind(0, 'o');
        CHECK.same("the first and the last one outputs", board.netState(30), 'c');
    }

    /** "The state of a net is the first one of these that applies" */
    private static void statesInTheirOrder() {
        Coppertrace board = onePart(3);
        board.setWire(0, 1, true);
        board.setWire(1, 2, true);
        board.setKind(0, 'o');
        board.setKind(1, 'o');
        board.setKind(2, 'i');
        CHECK.same("'c' before all", board.netState(2), 'c');
        board.setWire(1, 2, false);
        CHECK.same("'f' before 'u'", board.netState(2), 'f');
    }

    /** "Exchanges two pins of a part", the first and the last one of six too */
    private static void swapInAPart() {
        Coppertrace board = onePart(6);
        board.setKind(0, 'o');
        board.setName(0, 'a');
        board.setKind(5, 's');
        board.setGap(0, 2);
        board.setGap(5, 1);
        CHECK.same("nothing on the board", board.swap(5, 0), 0);
        CHECK.same("the kind of the last one", board.setKind(5, 'p'), 'o');
        CHECK.same("the kind of the first one", board.setKind(0, 'p'), 's');
        CHECK.same("the name of the last one", board.setName(5, '-'), 'a');
        CHECK.same("the name of the first one", board.setName(0, '-'), '-');
        CHECK.same("but not the gap of the last one", board.setGap(5, 0), 1);
        CHECK.same("nor that of the first one", board.setGap(0, 0), 2);
    }

    private static void swapOfWiresBetween() {
        Coppertrace board = onePart(3);
        board.setWire(0, 1, true);
        board.swap(1, 0);
        CHECK.same("the wire between both", board.setWire(0, 1, false), true);
        CHECK.same("no wire to the third one", board.setWire(0, 2, false) || board.setWire(1, 2, false), false);
    }

    private static void swapOfSharedWires() {
        Coppertrace board = onePart(3);
        board.addPart(0, 2, false);
        board.setWire(0, 3, true);
        board.setWire(1, 3, true);
        board.setWire(1, 4, true);
        board.swap(0, 1);
        CHECK.same("a wire of both to the same pin", board.setWire(0, 3, false) && board.setWire(1, 3, false), true);
        CHECK.same("a wire of one of them", board.setWire(0, 4, false), true);
        CHECK.same("which the other one has not", board.setWire(1, 4, false), false);
    }

    private static void swapOfNames() {
        Coppertrace board = onePart(3);
        board.setName(0, 'x');
        board.setName(1, 'x');
        board.swap(0, 1);
        CHECK.same("the same name stays", board.netOf(1), 0);
        board.swap(1, 2);
        CHECK.same("the name went to the last one", board.netOf(2), 0);
        CHECK.same("and left the middle one", board.netOf(1), 1);
    }

    private static void swapOffTheBoard() {
        Coppertrace board = onePart(2);
        board.addPart(1, 2, false);
        board.setWire(0, 2, true);
        board.place(1, 0, 0, 0);
        CHECK.same("of a part that is not placed", board.swap(0, 1), 0);
        CHECK.same("it is exchanged all the same", board.netOf(2), 1);
    }

    /** "Returns the air lengths of all nets together, then." */
    private static void swapTellsTheNewAir() {
        Coppertrace board = onePart(6);
        board.addPart(1, 1, false);
        board.setWire(0, 6, true);
        board.setWire(1, 2, true);
        board.place(0, 0, 0, 0);
        CHECK.same("air before", board.place(1, 19, 0, 0), 19 + 1);
        CHECK.same("air behind", board.swap(0, 5), 14 + 1);
        CHECK.same("air of both nets", board.swap(1, 5), 18 + 3);
        CHECK.same("and back", board.swap(5, 1), 14 + 1);
    }

    /** "An object is used for at most 512 calls after it has been made" */
    private static void lastCallOfAll() {
        Coppertrace board = largest();
        for (int call = 13; call < 512; call++) {
            board.setKind(call % 72, "iops".charAt(call % 4));
        }
        CHECK.same("the last of 512 calls", board.setKind(511 % 72, 'i'), 's');
    }
}
