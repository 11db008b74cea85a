import java.util.NoSuchElementException;

/** A board made from a drawn circuit; ../shared/DOC.md promises what each call answers. */
public final class Coppertrace {
    private static final int COLUMNS = 20;
    private static final int ROWS = 14;
    private static final int LAYERS = 2;
    private static final int LAYER_CELLS = 280;
    private static final int CELLS = 560;
    private static final int PAGES = 3;
    private static final int PARTS = 12;
    private static final int PART_PINS = 6;
    private static final int PINS = 72;
    private static final int TURNS = 4;
    private static final int GAPS = 3;
    private static final int ITEMS = 150;
    private static final int PIECES = 222;
    private static final int SKETCH = 222;
    private static final int AREAS = 4;
    private static final int NODES = 1342;
    private static final int HOLES = 9;
    private static final int ROUNDS = 6;
    private static final int NONE = -1;
    private static final int FAR = 1000000000;

    private final Sheet sheet;
    private final Copper copper;
    private final Pours pours;
    private final Joints joints;
    private final Paint paint;
    private final Air air;
    private final Drill drill;
    private final Search search;
    private final Router router;

    public Coppertrace() {
        sheet = new Sheet();
        copper = new Copper(sheet);
        pours = new Pours(sheet, copper);
        joints = new Joints(sheet, copper, pours);
        paint = new Paint(copper, pours);
        air = new Air(sheet, copper, joints);
        drill = new Drill();
        search = new Search(sheet, copper, joints);
        router = new Router(sheet, copper, joints, search);
    }

    // ---- sheet

    public int addPart(int page, int pins, boolean isThrough)
            throws IllegalArgumentException, IllegalStateException {
        if (!isBelow(page, PAGES) || pins < 1 || pins > PART_PINS) {
            throw new IllegalArgumentException();
        }
        if (sheet.parts >= PARTS) {
            throw new IllegalStateException();
        }
        return sheet.add(page, pins, isThrough);
    }

    public char setKind(int pin, char kind) throws IndexOutOfBoundsException, IllegalArgumentException {
        needPin(pin);
        if (kind != 'i' && kind != 'o' && kind != 'p' && kind != 's') {
            throw new IllegalArgumentException();
        }
        char before = sheet.kind[pin];
        sheet.kind[pin] = kind;
        return before;
    }

    public boolean setWire(int pin, int other, boolean isThere)
            throws IndexOutOfBoundsException, IllegalArgumentException {
        needPin(pin);
        needPin(other);
        if (pin == other) {
            throw new IllegalArgumentException();
        }
        boolean before = sheet.isWired(pin, other);
        sheet.wire(pin, other, isThere);
        sheet.findNets();
        return before;
    }

    public char setName(int pin, char name) throws IndexOutOfBoundsException, IllegalArgumentException {
        needPin(pin);
        if (name != '-' && !isSmall(name) && !(name >= 'A' && name <= 'Z')) {
            throw new IllegalArgumentException();
        }
        char before = sheet.name[pin];
        sheet.name[pin] = name;
        sheet.findNets();
        return before;
    }

    public int netOf(int pin) throws IndexOutOfBoundsException {
        needPin(pin);
        return sheet.net[pin];
    }

    public int nets() {
        return sheet.countNets(1);
    }

    public char netState(int pin) throws IndexOutOfBoundsException {
        needPin(pin);
        return sheet.stateOf(sheet.net[pin]);
    }

    public int swap(int pin, int other) throws IndexOutOfBoundsException, IllegalArgumentException {
        needPin(pin);
        needPin(other);
        if (pin == other || sheet.part[pin] != sheet.part[other]) {
            throw new IllegalArgumentException();
        }
        sheet.exchange(pin, other);
        sheet.findNets();
        return airLength();
    }

    // ---- board

    public int place(int part, int column, int row, int turn)
            throws IndexOutOfBoundsException, IllegalArgumentException, UnsupportedOperationException {
        needPart(part);
        if (!isOnBoard(column, row) || !isBelow(turn, TURNS)) {
            throw new IllegalArgumentException();
        }
        if (!copper.hasRoomFor(part, column, row, turn)) {
            throw new UnsupportedOperationException();
        }
        copper.putPads(part, column, row, turn);
        return airLength();
    }

    public boolean lift(int part) throws IndexOutOfBoundsException {
        needPart(part);
        return copper.takePads(part);
    }

    public int setGap(int pin, int gap) throws IndexOutOfBoundsException, IllegalArgumentException {
        needPin(pin);
        if (!isBelow(gap, GAPS)) {
            throw new IllegalArgumentException();
        }
        int before = sheet.gap[pin];
        sheet.gap[pin] = gap;
        sheet.findGaps();
        return before;
    }

    public int track(int pin, int layer, int column, int row, int length, boolean isUp)
            throws IndexOutOfBoundsException, IllegalArgumentException, IllegalStateException,
            UnsupportedOperationException {
        needPin(pin);
        if (!isBelow(layer, LAYERS) || !isOnBoard(column, row) || length < 2 || length > COLUMNS) {
            throw new IllegalArgumentException();
        }
        int more = length - 1;
        if (isUp ? row + more >= ROWS : column + more >= COLUMNS) {
            throw new IllegalArgumentException();
        }
        int first = cellAt(layer, column, row);
        return draw('t', pin, first, first + (isUp ? more * COLUMNS : more));
    }

    public int via(int pin, int column, int row)
            throws IndexOutOfBoundsException, IllegalArgumentException, IllegalStateException,
            UnsupportedOperationException {
        needPin(pin);
        if (!isOnBoard(column, row)) {
            throw new IllegalArgumentException();
        }
        return draw('v', pin, cellAt(0, column, row), cellAt(1, column, row));
    }

    public boolean erase(int item) throws IndexOutOfBoundsException {
        needItem(item);
        return copper.takeAway(PINS + item);
    }

    public boolean setLocked(int item, boolean isLocked)
            throws IndexOutOfBoundsException, IllegalStateException {
        needItem(item);
        if (!copper.isThere(PINS + item)) {
            throw new IllegalStateException();
        }
        boolean before = copper.locked[item];
        copper.locked[item] = isLocked;
        return before;
    }

    public int pour(int pin, int layer, int left, int low, int right, int high)
            throws IndexOutOfBoundsException, IllegalArgumentException, IllegalStateException {
        needPin(pin);
        if (!isBelow(layer, LAYERS) || !isOnBoard(left, low) || !isOnBoard(right, high)) {
            throw new IllegalArgumentException();
        }
        if (left > right || low > high) {
            throw new IllegalArgumentException();
        }
        if (pours.areas >= AREAS) {
            throw new IllegalStateException();
        }
        return pours.tell(pin, cellAt(layer, left, low), cellAt(layer, right, high));
    }

    // ---- searching

    public int route(int pin, int other)
            throws IndexOutOfBoundsException, IllegalArgumentException, IllegalStateException,
            UnsupportedOperationException, NoSuchElementException {
        needPin(pin);
        needPin(other);
        if (sheet.net[pin] != sheet.net[other] || !copper.isThere(pin) || !copper.isThere(other)) {
            throw new IllegalArgumentException();
        }
        joints.join(false);
        // Pads that are joined have no way left to make, so no item of it can be too many.
        if (joints.isJoined(pin, other)) {
            throw new UnsupportedOperationException();
        }
        int end = router.findWay(pin, other);
        if (end == NONE) {
            throw new NoSuchElementException();
        }
        if (!router.fits()) {
            throw new IllegalStateException();
        }
        router.layWay(pin);
        return search.toll[end];
    }

    public int routeAll(int rounds) throws IllegalArgumentException {
        if (rounds < 1 || rounds > ROUNDS) {
            throw new IllegalArgumentException();
        }
        return router.makeRounds(rounds);
    }

    public int price(int cell) throws IndexOutOfBoundsException {
        needCell(cell);
        return search.price[cell];
    }

    public int ripped() {
        return router.ripped;
    }

    // ---- looking

    public int items() {
        return copper.countItems();
    }

    public char kindOf(int item) throws IndexOutOfBoundsException {
        needItem(item);
        return copper.kind[PINS + item];
    }

    public int cellOf(int item, int index) throws IndexOutOfBoundsException, NoSuchElementException {
        needItem(item);
        int piece = PINS + item;
        if (!copper.isThere(piece) || !isBelow(index, copper.count[piece])) {
            throw new NoSuchElementException();
        }
        return copper.cellInRow(piece, index);
    }

    public int netAt(int cell) throws IndexOutOfBoundsException, NoSuchElementException {
        needCell(cell);
        int piece = copper.pieceAt(cell);
        if (piece != NONE) {
            return copper.netOfPiece(piece);
        }
        pours.pourAll();
        int area = pours.areaAt(cell);
        if (area == NONE) {
            throw new NoSuchElementException();
        }
        return pours.netOfArea(area);
    }

    public int poured(int area) throws IndexOutOfBoundsException {
        needArea(area);
        pours.pourAll();
        return pours.countCells(area);
    }

    public int islands(int area) throws IndexOutOfBoundsException {
        needArea(area);
        pours.pourAll();
        return pours.countIslands(area);
    }

    public boolean areJoined(int pin, int other) throws IndexOutOfBoundsException {
        needPin(pin);
        needPin(other);
        joinAll();
        return joints.isJoined(pin, other);
    }

    public boolean areJoinedByPaint(int pin, int other) throws IndexOutOfBoundsException {
        needPin(pin);
        needPin(other);
        if (!copper.isThere(pin) || !copper.isThere(other)) {
            return false;
        }
        pours.pourAll();
        paint.linkCells(true);
        paint.spread(copper.first[pin]);
        return paint.isPainted(copper.first[other]);
    }

    public int opens(int pin) throws IndexOutOfBoundsException {
        needPin(pin);
        joinAll();
        return joints.opensOf(sheet.net[pin]);
    }

    public int shorts() {
        joinAll();
        return joints.countShorts();
    }

    public int gaps() {
        return copper.countNear();
    }

    public int airLength() {
        joints.join(false);
        return air.lengthOfAll();
    }

    public int path(int pin, int other)
            throws IndexOutOfBoundsException, NoSuchElementException, UnsupportedOperationException {
        needPin(pin);
        needPin(other);
        if (!copper.isThere(pin) || !copper.isThere(other)) {
            throw new NoSuchElementException();
        }
        paint.linkCells(false);
        int from = copper.first[pin];
        int to = copper.first[other];
        paint.spread(from);
        if (!paint.isPainted(to)) {
            throw new NoSuchElementException();
        }
        int steps = paint.steps[to];
        if (paint.hasOtherWay(from, to)) {
            throw new UnsupportedOperationException();
        }
        return steps;
    }

    public int drillWay() throws UnsupportedOperationException {
        drill.holes = 0;
        for (int piece = 0; piece < PIECES; piece++) {
            if (copper.isHole(piece)) {
                if (drill.holes >= HOLES) {
                    throw new UnsupportedOperationException();
                }
                drill.addHole(copper.first[piece]);
            }
        }
        return drill.leastWay();
    }

    public long trackLength() {
        long sum = 0;
        for (int piece = PINS; piece < PIECES; piece++) {
            if (copper.kind[piece] == 't') {
                sum += copper.count[piece] - 1;
            }
        }
        return sum;
    }

    public float joinedShare() throws ArithmeticException {
        int all = sheet.countNets(2);
        if (all <= 0) {
            throw new ArithmeticException();
        }
        joinAll();
        int whole = 0;
        for (int net = 0; net < sheet.pins; net++) {
            if (sheet.sizeOf(net) >= 2 && joints.opensOf(net) == 0) {
                whole++;
            }
        }
        return (float) whole / (float) all;
    }

    public double meanPins() throws ArithmeticException {
        int all = sheet.countNets(1);
        if (all <= 0) {
            throw new ArithmeticException();
        }
        return (double) sheet.pins / (double) all;
    }

    public boolean isAsDrawn() {
        joinAll();
        return joints.areAsDrawn();
    }

    public boolean isConsistent() {
        joinAll();
        return isPaintedAsJoined() && pours.areClear() && pours.areHeld();
    }

    // ---- what the calls share

    private void needPin(int pin) {
        if (!isBelow(pin, sheet.pins)) {
            throw new IndexOutOfBoundsException();
        }
    }

    private void needPart(int part) {
        if (!isBelow(part, sheet.parts)) {
            throw new IndexOutOfBoundsException();
        }
    }

    private void needItem(int item) {
        if (!isBelow(item, copper.made)) {
            throw new IndexOutOfBoundsException();
        }
    }

    private void needCell(int cell) {
        if (!isBelow(cell, CELLS)) {
            throw new IndexOutOfBoundsException();
        }
    }

    private void needArea(int area) {
        if (!isBelow(area, pours.areas)) {
            throw new IndexOutOfBoundsException();
        }
    }

    private int draw(char kind, int pin, int first, int last) {
        if (copper.made >= ITEMS) {
            throw new IllegalStateException();
        }
        copper.put(SKETCH, pin, first, last);
        if (copper.isSketchTooNear()) {
            throw new UnsupportedOperationException();
        }
        return copper.make(kind, pin, first, last);
    }

    private void joinAll() {
        pours.pourAll();
        joints.join(true);
    }

    private boolean isPaintedAsJoined() {
        paint.linkCells(true);
        for (int pin = 0; pin < sheet.pins; pin++) {
            if (copper.isThere(pin) && !isPaintedAsJoinedFrom(pin)) {
                return false;
            }
        }
        return true;
    }

    private boolean isPaintedAsJoinedFrom(int pin) {
        paint.spread(copper.first[pin]);
        for (int other = 0; other < sheet.pins; other++) {
            if (copper.isThere(other)
                    && paint.isPainted(copper.first[other]) != joints.isJoined(pin, other)) {
                return false;
            }
        }
        return true;
    }

    private static boolean isBelow(int number, int bound) {
        return number >= 0 && number < bound;
    }

    private static boolean isSmall(char name) {
        return name >= 'a' && name <= 'z';
    }

    private static boolean isOnBoard(int column, int row) {
        return isBelow(column, COLUMNS) && isBelow(row, ROWS);
    }

    private static int cellAt(int layer, int column, int row) {
        return layer * LAYER_CELLS + row * COLUMNS + column;
    }

    private static int layerOf(int cell) {
        return cell / LAYER_CELLS;
    }

    private static int rowOf(int cell) {
        return cell % LAYER_CELLS / COLUMNS;
    }

    private static int columnOf(int cell) {
        return cell % COLUMNS;
    }

    private static int between(int low, int high, int otherLow, int otherHigh) {
        if (otherLow > high) {
            return otherLow - high;
        }
        return low > otherHigh ? low - otherHigh : 0;
    }

    private static int airBetween(int cell, int other) {
        return Math.abs(columnOf(cell) - columnOf(other)) + Math.abs(rowOf(cell) - rowOf(other));
    }

    /** The directions rise with the cells that they lead to, as the lowest one comes first. */
    private static int nextCell(int cell, int direction) {
        switch (direction) {
            case 0:
                return layerOf(cell) == 1 ? cell - LAYER_CELLS : NONE;
            case 1:
                return rowOf(cell) > 0 ? cell - COLUMNS : NONE;
            case 2:
                return columnOf(cell) > 0 ? cell - 1 : NONE;
            case 3:
                return columnOf(cell) < COLUMNS - 1 ? cell + 1 : NONE;
            case 4:
                return rowOf(cell) < ROWS - 1 ? cell + COLUMNS : NONE;
            case 5:
                return layerOf(cell) == 0 ? cell + LAYER_CELLS : NONE;
            default:
                return NONE;
        }
    }

    /** The drawn circuit: parts, their pins, and the nets that wires and names make of these. */
    private static final class Sheet {
        int parts;
        int pins;
        final int[] page = new int[PARTS];
        final int[] firstPin = new int[PARTS];
        final int[] size = new int[PARTS];
        final boolean[] goesThrough = new boolean[PARTS];
        final int[] part = new int[PINS];
        final char[] kind = new char[PINS];
        final char[] name = new char[PINS];
        final int[] gap = new int[PINS];
        final boolean[] wired = new boolean[PINS * PINS];
        final int[] net = new int[PINS];
        final int[] netGap = new int[PINS];
        final int[] queue = new int[PINS];

        int add(int ofPage, int count, boolean isThrough) {
            int start = pins;
            page[parts] = ofPage;
            firstPin[parts] = start;
            size[parts] = count;
            goesThrough[parts] = isThrough;
            for (int pin = start; pin < start + count; pin++) {
                part[pin] = parts;
                kind[pin] = 'p';
                name[pin] = '-';
            }
            parts++;
            pins += count;
            findNets();
            return start;
        }

        boolean isWired(int pin, int other) {
            return wired[pin * PINS + other];
        }

        void wire(int pin, int other, boolean isThere) {
            wired[pin * PINS + other] = isThere;
            wired[other * PINS + pin] = isThere;
        }

        void exchange(int pin, int other) {
            char oldName = name[pin];
            name[pin] = name[other];
            name[other] = oldName;
            char oldKind = kind[pin];
            kind[pin] = kind[other];
            kind[other] = oldKind;
            for (int end = 0; end < pins; end++) {
                // A wire between the two has both of its ends exchanged, so it stays.
                if (end != pin && end != other) {
                    boolean old = isWired(pin, end);
                    wire(pin, end, isWired(other, end));
                    wire(other, end, old);
                }
            }
        }

        void findNets() {
            for (int pin = 0; pin < pins; pin++) {
                net[pin] = NONE;
            }
            for (int pin = 0; pin < pins; pin++) {
                if (net[pin] == NONE) {
                    fillNet(pin);
                }
            }
            findGaps();
        }

        private void fillNet(int lowest) {
            net[lowest] = lowest;
            queue[0] = lowest;
            int found = 1;
            for (int done = 0; done < found; done++) {
                int pin = queue[done];
                for (int other = 0; other < pins; other++) {
                    if (found < PINS && net[other] == NONE && isTied(pin, other)) {
                        net[other] = lowest;
                        queue[found] = other;
                        found++;
                    }
                }
            }
        }

        private boolean isTied(int pin, int other) {
            if (isWired(pin, other)) {
                return true;
            }
            if (name[pin] == '-' || name[pin] != name[other]) {
                return false;
            }
            return !isSmall(name[pin]) || page[part[pin]] == page[part[other]];
        }

        void findGaps() {
            for (int pin = 0; pin < pins; pin++) {
                netGap[pin] = 0;
            }
            for (int pin = 0; pin < pins; pin++) {
                int of = net[pin];
                netGap[of] = Math.max(netGap[of], gap[pin]);
            }
        }

        int reach(int netA, int netB) {
            return Math.max(netGap[netA], netGap[netB]);
        }

        int sizeOf(int ofNet) {
            int sum = 0;
            for (int pin = 0; pin < pins; pin++) {
                if (net[pin] == ofNet) {
                    sum++;
                }
            }
            return sum;
        }

        int countNets(int leastPins) {
            int sum = 0;
            for (int of = 0; of < pins; of++) {
                if (sizeOf(of) >= leastPins) {
                    sum++;
                }
            }
            return sum;
        }

        private int countKind(int ofNet, char ofKind) {
            int sum = 0;
            for (int pin = 0; pin < pins; pin++) {
                if (net[pin] == ofNet && kind[pin] == ofKind) {
                    sum++;
                }
            }
            return sum;
        }

        char stateOf(int ofNet) {
            int outputs = countKind(ofNet, 'o');
            if (outputs >= 2) {
                return 'c';
            }
            if (countKind(ofNet, 'i') > 0 && outputs == 0 && countKind(ofNet, 's') == 0) {
                return 'f';
            }
            return sizeOf(ofNet) == 1 ? 'u' : '-';
        }
    }

    /**
     * Pads and items alike are pieces: a row of cells from the first to the last one. The piece
     * of a pad has the number of its pin, that of an item comes behind all pads, and one more
     * is the sketch of what may come.
     */
    private static final class Copper {
        final Sheet sheet;
        final char[] kind = new char[PIECES + 1];
        final int[] pin = new int[PIECES + 1];
        final int[] first = new int[PIECES + 1];
        final int[] last = new int[PIECES + 1];
        final int[] step = new int[PIECES + 1];
        final int[] count = new int[PIECES + 1];
        final boolean[] locked = new boolean[ITEMS];
        int made;

        Copper(Sheet sheet) {
            this.sheet = sheet;
            for (int piece = 0; piece <= PIECES; piece++) {
                kind[piece] = '-';
            }
        }

        boolean isThere(int piece) {
            return kind[piece] != '-';
        }

        int netOfPiece(int piece) {
            return sheet.net[pin[piece]];
        }

        void put(int piece, int ofPin, int from, int to) {
            int length = to - from;
            pin[piece] = ofPin;
            first[piece] = from;
            last[piece] = to;
            if (length >= LAYER_CELLS) {
                step[piece] = LAYER_CELLS;
                count[piece] = LAYERS;
            } else if (length >= COLUMNS) {
                step[piece] = COLUMNS;
                count[piece] = length / COLUMNS + 1;
            } else {
                step[piece] = 1;
                count[piece] = length + 1;
            }
        }

        int make(char ofKind, int ofPin, int from, int to) {
            int item = made;
            put(PINS + item, ofPin, from, to);
            kind[PINS + item] = ofKind;
            made++;
            return item;
        }

        boolean takeAway(int piece) {
            boolean was = isThere(piece);
            kind[piece] = '-';
            return was;
        }

        int cellInRow(int piece, int index) {
            return first[piece] + index * step[piece];
        }

        boolean isInLayer(int piece, int layer) {
            return layerOf(first[piece]) <= layer && layer <= layerOf(last[piece]);
        }

        boolean hasCell(int piece, int cell) {
            return isInLayer(piece, layerOf(cell))
                    && columnOf(first[piece]) <= columnOf(cell) && columnOf(cell) <= columnOf(last[piece])
                    && rowOf(first[piece]) <= rowOf(cell) && rowOf(cell) <= rowOf(last[piece]);
        }

        int pieceAt(int cell) {
            for (int piece = 0; piece < PIECES; piece++) {
                if (isThere(piece) && hasCell(piece, cell)) {
                    return piece;
                }
            }
            return NONE;
        }

        boolean isHole(int piece) {
            return isThere(piece) && layerOf(first[piece]) != layerOf(last[piece]);
        }

        int countItems() {
            int sum = 0;
            for (int piece = PINS; piece < PIECES; piece++) {
                if (isThere(piece)) {
                    sum++;
                }
            }
            return sum;
        }

        private int distance(int piece, int other) {
            int columns = between(columnOf(first[piece]), columnOf(last[piece]),
                    columnOf(first[other]), columnOf(last[other]));
            int rows = between(rowOf(first[piece]), rowOf(last[piece]),
                    rowOf(first[other]), rowOf(last[other]));
            return Math.max(columns, rows);
        }

        private boolean shareLayer(int piece, int other) {
            return layerOf(first[piece]) <= layerOf(last[other])
                    && layerOf(first[other]) <= layerOf(last[piece]);
        }

        boolean isTooNear(int piece, int other) {
            int net = netOfPiece(piece);
            int otherNet = netOfPiece(other);
            return net != otherNet && shareLayer(piece, other)
                    && distance(piece, other) <= sheet.reach(net, otherNet);
        }

        boolean isSketchTooNear() {
            for (int piece = 0; piece < PIECES; piece++) {
                if (isThere(piece) && isTooNear(SKETCH, piece)) {
                    return true;
                }
            }
            return false;
        }

        int countNear() {
            int sum = 0;
            for (int piece = 0; piece < PIECES; piece++) {
                if (!isThere(piece)) {
                    continue;
                }
                for (int other = piece + 1; other < PIECES; other++) {
                    if (isThere(other) && isTooNear(piece, other)) {
                        sum++;
                    }
                }
            }
            return sum;
        }

        private int padCell(int column, int row, int turn, int index) {
            int right = turn == 0 ? index : turn == 2 ? -index : 0;
            int up = turn == 1 ? index : turn == 3 ? -index : 0;
            return isOnBoard(column + right, row + up) ? cellAt(0, column + right, row + up) : NONE;
        }

        private void putPad(int piece, int ofPin, int cell) {
            boolean isThrough = sheet.goesThrough[sheet.part[ofPin]];
            put(piece, ofPin, cell, isThrough ? cell + LAYER_CELLS : cell);
        }

        boolean hasRoomFor(int part, int column, int row, int turn) {
            for (int index = 0; index < sheet.size[part]; index++) {
                int cell = padCell(column, row, turn, index);
                if (cell == NONE) {
                    return false;
                }
                putPad(SKETCH, sheet.firstPin[part] + index, cell);
                if (isSketchCrowded(part)) {
                    return false;
                }
            }
            return true;
        }

        private boolean isSketchCrowded(int part) {
            for (int pad = 0; pad < sheet.pins; pad++) {
                if (isThere(pad) && sheet.part[pad] != part && distance(SKETCH, pad) < 2) {
                    return true;
                }
            }
            for (int piece = PINS; piece < PIECES; piece++) {
                if (isThere(piece) && isTooNear(SKETCH, piece)) {
                    return true;
                }
            }
            return false;
        }

        void putPads(int part, int column, int row, int turn) {
            for (int index = 0; index < sheet.size[part]; index++) {
                int ofPin = sheet.firstPin[part] + index;
                putPad(ofPin, ofPin, padCell(column, row, turn, index));
                kind[ofPin] = 'p';
            }
        }

        boolean takePads(int part) {
            boolean was = false;
            for (int index = 0; index < sheet.size[part]; index++) {
                was = takeAway(sheet.firstPin[part] + index);
            }
            return was;
        }
    }

    /** The areas, and what they pour into: the lowest cell of its layer names an island. */
    private static final class Pours {
        final Sheet sheet;
        final Copper copper;
        int areas;
        final int[] pin = new int[AREAS];
        final int[] first = new int[AREAS];
        final int[] last = new int[AREAS];
        final int[] island = new int[AREAS * LAYER_CELLS];
        final boolean[] isOpen = new boolean[LAYER_CELLS];
        final boolean[] isOwn = new boolean[LAYER_CELLS];
        final int[] queue = new int[LAYER_CELLS];

        Pours(Sheet sheet, Copper copper) {
            this.sheet = sheet;
            this.copper = copper;
        }

        int tell(int ofPin, int from, int to) {
            int area = areas;
            pin[area] = ofPin;
            first[area] = from;
            last[area] = to;
            areas++;
            return area;
        }

        int netOfArea(int area) {
            return sheet.net[pin[area]];
        }

        int layerOfArea(int area) {
            return layerOf(first[area]);
        }

        int islandAt(int area, int spot) {
            return island[area * LAYER_CELLS + spot];
        }

        void pourAll() {
            for (int area = 0; area < areas; area++) {
                openSpots(area);
                closeNearPieces(area);
                for (int earlier = 0; earlier < area; earlier++) {
                    closeNearArea(area, earlier);
                }
                findOwnSpots(area);
                findIslands(area);
            }
        }

        private void openSpots(int area) {
            for (int spot = 0; spot < LAYER_CELLS; spot++) {
                isOpen[spot] = columnOf(first[area]) <= columnOf(spot)
                        && columnOf(spot) <= columnOf(last[area])
                        && rowOf(first[area]) <= rowOf(spot) && rowOf(spot) <= rowOf(last[area]);
            }
        }

        private void closeNearPieces(int area) {
            int net = netOfArea(area);
            for (int piece = 0; piece < PIECES; piece++) {
                if (!copper.isThere(piece) || !copper.isInLayer(piece, layerOfArea(area))) {
                    continue;
                }
                int other = copper.netOfPiece(piece);
                if (other != net) {
                    closeRound(copper.first[piece], copper.last[piece], sheet.reach(net, other));
                }
            }
        }

        private void closeNearArea(int area, int earlier) {
            int net = netOfArea(area);
            int other = netOfArea(earlier);
            if (net == other || layerOfArea(area) != layerOfArea(earlier)) {
                return;
            }
            int reach = sheet.reach(net, other);
            for (int spot = 0; spot < LAYER_CELLS; spot++) {
                if (islandAt(earlier, spot) != NONE) {
                    closeRound(spot, spot, reach);
                }
            }
        }

        private void closeRound(int from, int to, int reach) {
            int left = Math.max(0, columnOf(from) - reach);
            int right = Math.min(COLUMNS - 1, columnOf(to) + reach);
            int low = Math.max(0, rowOf(from) - reach);
            int high = Math.min(ROWS - 1, rowOf(to) + reach);
            for (int row = low; row <= high; row++) {
                for (int column = left; column <= right; column++) {
                    isOpen[row * COLUMNS + column] = false;
                }
            }
        }

        private void findOwnSpots(int area) {
            int net = netOfArea(area);
            for (int spot = 0; spot < LAYER_CELLS; spot++) {
                isOwn[spot] = false;
            }
            for (int piece = 0; piece < PIECES; piece++) {
                if (copper.isThere(piece) && copper.netOfPiece(piece) == net) {
                    markOwn(piece, layerOfArea(area));
                }
            }
        }

        private void markOwn(int piece, int layer) {
            for (int index = 0; index < copper.count[piece]; index++) {
                int cell = copper.cellInRow(piece, index);
                if (layerOf(cell) == layer) {
                    isOwn[cell % LAYER_CELLS] = true;
                }
            }
        }

        private void findIslands(int area) {
            for (int spot = 0; spot < LAYER_CELLS; spot++) {
                island[area * LAYER_CELLS + spot] = NONE;
            }
            for (int spot = 0; spot < LAYER_CELLS; spot++) {
                if (isOpen[spot]) {
                    fillIsland(area, spot);
                }
            }
        }

        private void fillIsland(int area, int lowest) {
            boolean isHeld = false;
            isOpen[lowest] = false;
            queue[0] = lowest;
            int found = 1;
            for (int done = 0; done < found; done++) {
                int spot = queue[done];
                isHeld = isHeld || isOwn[spot];
                for (int direction = 1; direction <= 4; direction++) {
                    int next = nextCell(spot, direction);
                    if (next != NONE && isOpen[next] && found < LAYER_CELLS) {
                        isOpen[next] = false;
                        queue[found] = next;
                        found++;
                    }
                }
            }
            for (int done = 0; done < found && isHeld; done++) {
                island[area * LAYER_CELLS + queue[done]] = lowest;
            }
        }

        int countCells(int area) {
            int sum = 0;
            for (int spot = 0; spot < LAYER_CELLS; spot++) {
                if (islandAt(area, spot) != NONE) {
                    sum++;
                }
            }
            return sum;
        }

        int countIslands(int area) {
            int sum = 0;
            for (int spot = 0; spot < LAYER_CELLS; spot++) {
                if (islandAt(area, spot) == spot) {
                    sum++;
                }
            }
            return sum;
        }

        int areaAt(int cell) {
            for (int area = 0; area < areas; area++) {
                if (layerOfArea(area) == layerOf(cell) && islandAt(area, cell % LAYER_CELLS) != NONE) {
                    return area;
                }
            }
            return NONE;
        }

        boolean areClear() {
            for (int area = 0; area < areas; area++) {
                for (int spot = 0; spot < LAYER_CELLS; spot++) {
                    int cell = layerOfArea(area) * LAYER_CELLS + spot;
                    if (islandAt(area, spot) != NONE) {
                        copper.put(SKETCH, pin[area], cell, cell);
                        if (copper.isSketchTooNear()) {
                            return false;
                        }
                    }
                }
            }
            return true;
        }

        boolean areHeld() {
            for (int area = 0; area < areas; area++) {
                findOwnSpots(area);
                for (int spot = 0; spot < LAYER_CELLS; spot++) {
                    if (islandAt(area, spot) == spot && !isHeld(area, spot)) {
                        return false;
                    }
                }
            }
            return true;
        }

        private boolean isHeld(int area, int lowest) {
            for (int spot = 0; spot < LAYER_CELLS; spot++) {
                if (isOwn[spot] && islandAt(area, spot) == lowest) {
                    return true;
                }
            }
            return false;
        }
    }

    /** What is joined by having the same cell: a tree of nodes, which are pieces and islands. */
    private static final class Joints {
        final Sheet sheet;
        final Copper copper;
        final Pours pours;
        final int[] above = new int[NODES];
        final int[] owner = new int[CELLS];
        final boolean[] isMet = new boolean[PINS];

        Joints(Sheet sheet, Copper copper, Pours pours) {
            this.sheet = sheet;
            this.copper = copper;
            this.pours = pours;
        }

        /** Poured copper, if it is asked for, must be poured by then. */
        void join(boolean withPoured) {
            for (int node = 0; node < NODES; node++) {
                above[node] = node;
            }
            for (int cell = 0; cell < CELLS; cell++) {
                owner[cell] = NONE;
            }
            for (int piece = 0; piece < PIECES; piece++) {
                if (copper.isThere(piece)) {
                    claimPiece(piece);
                }
            }
            for (int area = 0; area < pours.areas && withPoured; area++) {
                claimIslands(area);
            }
        }

        private void claimPiece(int piece) {
            for (int index = 0; index < copper.count[piece]; index++) {
                claim(piece, copper.cellInRow(piece, index));
            }
        }

        private void claimIslands(int area) {
            int start = pours.layerOfArea(area) * LAYER_CELLS;
            for (int spot = 0; spot < LAYER_CELLS; spot++) {
                int island = pours.islandAt(area, spot);
                if (island != NONE) {
                    claim(PIECES + area * LAYER_CELLS + island, start + spot);
                }
            }
        }

        private void claim(int node, int cell) {
            if (owner[cell] == NONE) {
                owner[cell] = node;
            } else {
                above[top(node)] = top(owner[cell]);
            }
        }

        private int top(int node) {
            int at = node;
            for (int step = 0; step < NODES && above[at] != at; step++) {
                // Halving the chain keeps later looks short.
                above[at] = above[above[at]];
                at = above[at];
            }
            return at;
        }

        boolean isJoined(int piece, int other) {
            return copper.isThere(piece) && copper.isThere(other) && top(piece) == top(other);
        }

        int lowestPad(int net) {
            for (int pin = 0; pin < sheet.pins; pin++) {
                if (sheet.net[pin] == net && copper.isThere(pin)) {
                    return pin;
                }
            }
            return NONE;
        }

        int opensOf(int net) {
            int groups = 0;
            for (int pin = 0; pin < sheet.pins; pin++) {
                if (sheet.net[pin] == net && copper.isThere(pin) && isFirstOfGroup(pin, net)) {
                    groups++;
                }
            }
            return Math.max(0, groups - 1);
        }

        private boolean isFirstOfGroup(int pin, int net) {
            for (int earlier = 0; earlier < pin; earlier++) {
                if (sheet.net[earlier] == net && isJoined(earlier, pin)) {
                    return false;
                }
            }
            return true;
        }

        int countShorts() {
            int sum = 0;
            for (int net = 0; net < sheet.pins; net++) {
                if (sheet.net[net] == net) {
                    sum += shortsOf(net);
                }
            }
            return sum;
        }

        /** Each pair is counted once, at its lower net. */
        private int shortsOf(int net) {
            for (int other = 0; other < sheet.pins; other++) {
                isMet[other] = false;
            }
            int sum = 0;
            for (int pin = net; pin < sheet.pins; pin++) {
                if (sheet.net[pin] != net || !copper.isThere(pin)) {
                    continue;
                }
                for (int other = 0; other < sheet.pins; other++) {
                    int otherNet = sheet.net[other];
                    if (otherNet > net && !isMet[otherNet] && isJoined(pin, other)) {
                        isMet[otherNet] = true;
                        sum++;
                    }
                }
            }
            return sum;
        }

        boolean areAsDrawn() {
            for (int pin = 0; pin < sheet.pins; pin++) {
                for (int other = pin + 1; other < sheet.pins; other++) {
                    boolean areBothThere = copper.isThere(pin) && copper.isThere(other);
                    boolean isOneNet = sheet.net[pin] == sheet.net[other];
                    if (areBothThere && isJoined(pin, other) != isOneNet) {
                        return false;
                    }
                }
            }
            return true;
        }
    }

    /** What is joined by going from cell to cell: each cell knows its links to higher ones. */
    private static final class Paint {
        static final int TO_RIGHT = 1;
        static final int TO_UP = 2;
        static final int TO_LAYER = 4;

        final Copper copper;
        final Pours pours;
        final int[] links = new int[CELLS];
        final int[] steps = new int[CELLS];
        final int[] behind = new int[CELLS];
        final int[] queue = new int[CELLS];
        final int[] way = new int[CELLS];

        Paint(Copper copper, Pours pours) {
            this.copper = copper;
            this.pours = pours;
        }

        /** Poured copper, if it is asked for, must be poured by then. */
        void linkCells(boolean withPoured) {
            for (int cell = 0; cell < CELLS; cell++) {
                links[cell] = 0;
            }
            for (int piece = 0; piece < PIECES; piece++) {
                if (copper.isThere(piece)) {
                    linkPiece(piece);
                }
            }
            for (int area = 0; area < pours.areas && withPoured; area++) {
                linkIslands(area);
            }
        }

        private void linkPiece(int piece) {
            int link = linkOf(copper.step[piece]);
            for (int index = 0; index + 1 < copper.count[piece]; index++) {
                links[copper.cellInRow(piece, index)] |= link;
            }
        }

        private void linkIslands(int area) {
            int start = pours.layerOfArea(area) * LAYER_CELLS;
            for (int spot = 0; spot < LAYER_CELLS; spot++) {
                int island = pours.islandAt(area, spot);
                if (island == NONE) {
                    continue;
                }
                if (columnOf(spot) < COLUMNS - 1 && pours.islandAt(area, spot + 1) == island) {
                    links[start + spot] |= TO_RIGHT;
                }
                if (rowOf(spot) < ROWS - 1 && pours.islandAt(area, spot + COLUMNS) == island) {
                    links[start + spot] |= TO_UP;
                }
            }
        }

        private static int linkOf(int step) {
            return step == 1 ? TO_RIGHT : step == COLUMNS ? TO_UP : TO_LAYER;
        }

        private boolean isLinked(int cell, int next) {
            return (links[Math.min(cell, next)] & linkOf(Math.abs(cell - next))) != 0;
        }

        private void setLink(int cell, int next, boolean isThere) {
            int low = Math.min(cell, next);
            int link = linkOf(Math.abs(cell - next));
            links[low] = isThere ? links[low] | link : links[low] & ~link;
        }

        void spread(int from) {
            for (int cell = 0; cell < CELLS; cell++) {
                steps[cell] = NONE;
                behind[cell] = NONE;
            }
            steps[from] = 0;
            queue[0] = from;
            int found = 1;
            for (int done = 0; done < found; done++) {
                int cell = queue[done];
                for (int direction = 0; direction < 6; direction++) {
                    int next = nextCell(cell, direction);
                    if (next != NONE && found < CELLS && steps[next] == NONE && isLinked(cell, next)) {
                        steps[next] = steps[cell] + 1;
                        behind[next] = cell;
                        queue[found] = next;
                        found++;
                    }
                }
            }
        }

        boolean isPainted(int cell) {
            return steps[cell] != NONE;
        }

        /** A way is the only one just if none of its links can be spared. */
        boolean hasOtherWay(int from, int to) {
            int length = 0;
            for (int cell = to; cell != NONE && length < CELLS; cell = behind[cell]) {
                way[length] = cell;
                length++;
            }
            boolean hasOther = false;
            for (int at = 0; at + 1 < length && !hasOther; at++) {
                setLink(way[at], way[at + 1], false);
                spread(from);
                hasOther = isPainted(to);
                setLink(way[at], way[at + 1], true);
            }
            return hasOther;
        }
    }

    /** Air lengths: a tree that grows from pad to nearest pad, joined ones being no way apart. */
    private static final class Air {
        final Sheet sheet;
        final Copper copper;
        final Joints joints;
        final int[] nearest = new int[PINS];
        final boolean[] isOut = new boolean[PINS];

        Air(Sheet sheet, Copper copper, Joints joints) {
            this.sheet = sheet;
            this.copper = copper;
            this.joints = joints;
        }

        int lengthOfAll() {
            int sum = 0;
            for (int net = 0; net < sheet.pins; net++) {
                if (sheet.net[net] == net) {
                    sum += lengthOf(net);
                }
            }
            return sum;
        }

        private int lengthOf(int net) {
            for (int pin = 0; pin < sheet.pins; pin++) {
                isOut[pin] = sheet.net[pin] == net && copper.isThere(pin);
                nearest[pin] = FAR;
            }
            int sum = 0;
            int pad = joints.lowestPad(net);
            for (int turn = 0; turn < PINS && pad != NONE; turn++) {
                takeIn(pad);
                pad = nearestOut();
                sum += pad == NONE ? 0 : nearest[pad];
            }
            return sum;
        }

        private void takeIn(int pad) {
            isOut[pad] = false;
            for (int pin = 0; pin < sheet.pins; pin++) {
                if (isOut[pin]) {
                    int length = joints.isJoined(pad, pin) ? 0
                            : airBetween(copper.first[pad], copper.first[pin]);
                    nearest[pin] = Math.min(nearest[pin], length);
                }
            }
        }

        private int nearestOut() {
            int best = NONE;
            for (int pin = 0; pin < sheet.pins; pin++) {
                if (isOut[pin] && (best == NONE || nearest[pin] < nearest[best])) {
                    best = pin;
                }
            }
            return best;
        }
    }

    /** The least way through the holes, from those of all smaller sets of holes. */
    private static final class Drill {
        int holes;
        final int[] hole = new int[HOLES];
        final int[] least = new int[(1 << HOLES) * HOLES];

        void addHole(int cell) {
            hole[holes] = cell;
            holes++;
        }

        int leastWay() {
            int sets = 1 << holes;
            int answer = holes < 2 ? 0 : FAR;
            for (int set = 1; set < sets; set++) {
                for (int end = 0; end < holes; end++) {
                    if ((set & 1 << end) != 0) {
                        least[set * HOLES + end] = leastTo(set, end);
                    }
                }
            }
            for (int end = 0; end < holes; end++) {
                answer = Math.min(answer, least[(sets - 1) * HOLES + end]);
            }
            return answer;
        }

        private int leastTo(int set, int end) {
            int rest = set & ~(1 << end);
            int answer = rest == 0 ? 0 : FAR;
            for (int before = 0; before < holes; before++) {
                if ((rest & 1 << before) != 0) {
                    int length = least[rest * HOLES + before] + airBetween(hole[before], hole[end]);
                    answer = Math.min(answer, length);
                }
            }
            return answer;
        }
    }

    /** The search for one way, and the prices of cells that it may go to only by taking away. */
    private static final class Search {
        static final int FREE = 0;
        static final int PRICED = 1;
        static final int CLOSED = 2;
        static final int FIRST_PRICE = 10;
        static final int PRICE_RISE = 10;
        static final int STEP_TOLL = 2;
        static final int LAYER_TOLL = 5;

        final Sheet sheet;
        final Copper copper;
        final Joints joints;
        final int[] price = new int[CELLS];
        final int[] state = new int[CELLS];
        final int[] toll = new int[CELLS];
        final int[] behind = new int[CELLS];
        final boolean[] isGoal = new boolean[CELLS];
        final int[] open = new int[CELLS];
        int opened;
        final int[] way = new int[CELLS];
        int length;

        Search(Sheet sheet, Copper copper, Joints joints) {
            this.sheet = sheet;
            this.copper = copper;
            this.joints = joints;
            for (int cell = 0; cell < CELLS; cell++) {
                price[cell] = FIRST_PRICE;
            }
        }

        void prepare(int net, boolean mayTakeAway) {
            clear();
            survey(net, mayTakeAway);
        }

        private void clear() {
            opened = 0;
            length = 0;
            for (int cell = 0; cell < CELLS; cell++) {
                state[cell] = FREE;
                toll[cell] = NONE;
                behind[cell] = NONE;
                isGoal[cell] = false;
            }
        }

        private void survey(int net, boolean mayTakeAway) {
            for (int piece = 0; piece < PIECES; piece++) {
                if (!copper.isThere(piece)) {
                    continue;
                }
                int other = copper.netOfPiece(piece);
                if (other != net) {
                    boolean isPriced = mayTakeAway && piece >= PINS && !copper.locked[piece - PINS];
                    blockRound(piece, sheet.reach(net, other), isPriced ? PRICED : CLOSED);
                }
            }
        }

        private void blockRound(int piece, int reach, int how) {
            int from = copper.first[piece];
            int to = copper.last[piece];
            int left = Math.max(0, columnOf(from) - reach);
            int right = Math.min(COLUMNS - 1, columnOf(to) + reach);
            int low = Math.max(0, rowOf(from) - reach);
            int high = Math.min(ROWS - 1, rowOf(to) + reach);
            for (int layer = layerOf(from); layer <= layerOf(to); layer++) {
                for (int row = low; row <= high; row++) {
                    for (int column = left; column <= right; column++) {
                        int cell = cellAt(layer, column, row);
                        state[cell] = Math.max(state[cell], how);
                    }
                }
            }
        }

        void startFrom(int pad) {
            for (int piece = 0; piece < PIECES; piece++) {
                if (joints.isJoined(piece, pad)) {
                    startFromPiece(piece);
                }
            }
        }

        private void startFromPiece(int piece) {
            for (int index = 0; index < copper.count[piece]; index++) {
                reachCell(copper.cellInRow(piece, index), NONE, 0);
            }
        }

        void lookFor(int pad) {
            for (int piece = 0; piece < PIECES; piece++) {
                if (joints.isJoined(piece, pad)) {
                    lookForPiece(piece);
                }
            }
        }

        private void lookForPiece(int piece) {
            for (int index = 0; index < copper.count[piece]; index++) {
                isGoal[copper.cellInRow(piece, index)] = true;
            }
        }

        private void reachCell(int cell, int from, int newToll) {
            if (toll[cell] != NONE && toll[cell] <= newToll) {
                return;
            }
            if (toll[cell] == NONE && opened < CELLS) {
                open[opened] = cell;
                opened++;
            }
            toll[cell] = newToll;
            behind[cell] = from;
        }

        int findEnd() {
            for (int turn = 0; turn < CELLS; turn++) {
                int cell = takeNext();
                if (cell == NONE || isGoal[cell]) {
                    traceFrom(cell);
                    return cell;
                }
                goOnFrom(cell);
            }
            return NONE;
        }

        private int takeNext() {
            if (opened <= 0) {
                return NONE;
            }
            int best = 0;
            for (int at = 1; at < opened; at++) {
                if (isBefore(open[at], open[best])) {
                    best = at;
                }
            }
            int cell = open[best];
            opened--;
            open[best] = open[opened];
            return cell;
        }

        private boolean isBefore(int cell, int other) {
            return toll[cell] < toll[other] || toll[cell] == toll[other] && cell < other;
        }

        private void goOnFrom(int cell) {
            for (int direction = 0; direction < 6; direction++) {
                int next = nextCell(cell, direction);
                if (next == NONE || state[next] == CLOSED) {
                    continue;
                }
                boolean isChange = layerOf(cell) != layerOf(next);
                if (isChange && state[cell] == CLOSED) {
                    continue;
                }
                int more = isChange ? LAYER_TOLL : STEP_TOLL;
                if (state[next] == PRICED) {
                    more += price[next];
                }
                reachCell(next, cell, toll[cell] + more);
            }
        }

        private void traceFrom(int end) {
            for (int cell = end; cell != NONE && length < CELLS; cell = behind[cell]) {
                way[length] = cell;
                length++;
            }
        }

        boolean isItemEnd(int at) {
            if (at < 1 || at + 1 >= length) {
                return at > 0;
            }
            int step = way[at] - way[at - 1];
            return Math.abs(step) == LAYER_CELLS || way[at + 1] - way[at] != step;
        }

        int countItems() {
            int sum = 0;
            for (int at = 1; at < length; at++) {
                if (isItemEnd(at)) {
                    sum++;
                }
            }
            return sum;
        }

        void raisePrices() {
            for (int at = 0; at + 1 < length; at++) {
                if (state[way[at]] == PRICED) {
                    price[way[at]] += PRICE_RISE;
                }
            }
        }
    }

    /** Makes the ways that are found, and the rounds of rip and try again. */
    private static final class Router {
        final Sheet sheet;
        final Copper copper;
        final Joints joints;
        final Search search;
        int ripped;

        Router(Sheet sheet, Copper copper, Joints joints, Search search) {
            this.sheet = sheet;
            this.copper = copper;
            this.joints = joints;
            this.search = search;
        }

        int findWay(int pin, int other) {
            search.prepare(sheet.net[pin], false);
            search.lookFor(other);
            search.startFrom(pin);
            return search.findEnd();
        }

        boolean fits() {
            return copper.made + search.countItems() <= ITEMS;
        }

        void layWay(int pin) {
            int start = 0;
            for (int at = 1; at < search.length && copper.made < ITEMS; at++) {
                if (search.isItemEnd(at)) {
                    int from = Math.min(search.way[start], search.way[at]);
                    int to = Math.max(search.way[start], search.way[at]);
                    copper.make(layerOf(from) == layerOf(to) ? 't' : 'v', pin, from, to);
                    start = at;
                }
            }
        }

        int makeRounds(int rounds) {
            int begun = 0;
            boolean isFull = false;
            for (int round = 0; round < rounds && !isFull && hasOpens(); round++) {
                begun++;
                for (int net = 0; net < sheet.pins && !isFull; net++) {
                    isFull = sheet.sizeOf(net) >= 2 && !joinNet(net);
                }
            }
            return begun;
        }

        private boolean hasOpens() {
            joints.join(false);
            for (int net = 0; net < sheet.pins; net++) {
                if (joints.opensOf(net) > 0) {
                    return true;
                }
            }
            return false;
        }

        /** Tells whether all ways fitted. A way makes an item at least, so the turns suffice. */
        private boolean joinNet(int net) {
            for (int turn = 0; turn <= ITEMS; turn++) {
                joints.join(false);
                int pin = joints.lowestPad(net);
                if (pin == NONE || joints.opensOf(net) == 0) {
                    return true;
                }
                if (findPricedWay(net, pin) == NONE) {
                    return true;
                }
                if (!fits()) {
                    return false;
                }
                int older = copper.made;
                layWay(pin);
                rip(older, net);
                search.raisePrices();
            }
            return true;
        }

        private int findPricedWay(int net, int pin) {
            search.prepare(net, true);
            for (int other = 0; other < sheet.pins; other++) {
                if (sheet.net[other] == net && copper.isThere(other) && !joints.isJoined(pin, other)) {
                    search.lookFor(other);
                }
            }
            search.startFrom(pin);
            return search.findEnd();
        }

        private void rip(int older, int net) {
            for (int item = 0; item < older; item++) {
                int piece = PINS + item;
                if (copper.isThere(piece) && copper.netOfPiece(piece) != net
                        && !copper.locked[item] && isTooNearToNew(piece, older)) {
                    copper.takeAway(piece);
                    ripped++;
                }
            }
        }

        private boolean isTooNearToNew(int piece, int older) {
            for (int item = older; item < copper.made; item++) {
                if (copper.isTooNear(piece, PINS + item)) {
                    return true;
                }
            }
            return false;
        }
    }
}
