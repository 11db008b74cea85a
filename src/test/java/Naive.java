import java.util.ArrayList;
import java.util.HashSet;
import java.util.LinkedHashSet;
import java.util.List;
import java.util.NoSuchElementException;
import java.util.Set;
import java.util.TreeSet;

/**
 * The document written a second time, as sets of cells and with the slowest plain means, so that
 * ModelTest can hold the class against it. It shares no code and no way of working with the class.
 */
public final class Naive {
    static final class Part {
        int page;
        int first;
        int pins;
        boolean through;
        boolean placed;
        int column;
        int row;
        int turn;
    }

    static final class Item {
        char kind;
        int pin;
        boolean there = true;
        boolean locked;
        TreeSet<Integer> cells = new TreeSet<>();
    }

    static final class Area {
        int pin;
        TreeSet<Integer> cells = new TreeSet<>();
    }

    /** Copper that is one piece for "joined": a pad, an item or an island. */
    static final class Thing {
        int pin;
        char kind;
        Item item;
        boolean isArea;
        Set<Integer> cells = new TreeSet<>();
    }

    final List<Part> parts = new ArrayList<>();
    final List<Character> kinds = new ArrayList<>();
    final List<Character> names = new ArrayList<>();
    final List<Integer> gapsOfPins = new ArrayList<>();
    final Set<Integer> wires = new HashSet<>();
    final List<Item> made = new ArrayList<>();
    final List<Area> areas = new ArrayList<>();
    final int[] prices = new int[560];
    int rippedItems;

    public Naive() {
        java.util.Arrays.fill(prices, 10);
    }

    // ---- small things

    int pins() {
        return kinds.size();
    }

    void needPin(int pin) {
        if (pin < 0 || pin >= pins()) {
            throw new IndexOutOfBoundsException();
        }
    }

    static boolean onBoard(int column, int row) {
        return column >= 0 && column <= 19 && row >= 0 && row <= 13;
    }

    static int layer(int cell) {
        return cell / 280;
    }

    static int row(int cell) {
        return (cell - 280 * layer(cell)) / 20;
    }

    static int column(int cell) {
        return cell - 280 * layer(cell) - 20 * row(cell);
    }

    static int far(int a, int b) {
        return Math.max(Math.abs(column(a) - column(b)), Math.abs(row(a) - row(b)));
    }

    static int air(int a, int b) {
        return Math.abs(column(a) - column(b)) + Math.abs(row(a) - row(b));
    }

    static boolean nextTo(int a, int b) {
        return layer(a) == layer(b) && air(a, b) == 1;
    }

    Part partOf(int pin) {
        for (Part part : parts) {
            if (pin >= part.first && pin < part.first + part.pins) {
                return part;
            }
        }
        throw new AssertionError();
    }

    boolean tied(int a, int b) {
        if (wires.contains(a * 100 + b) || wires.contains(b * 100 + a)) {
            return true;
        }
        char name = names.get(a);
        if (name == '-' || name != names.get(b)) {
            return false;
        }
        return Character.isUpperCase(name) || partOf(a).page == partOf(b).page;
    }

    int[] cachedNets;

    /** The lowest pin that can be reached, found by spreading until nothing changes. */
    int[] netTable() {
        if (cachedNets != null) {
            return cachedNets;
        }
        int[] net = new int[pins()];
        for (int p = 0; p < net.length; p++) {
            net[p] = p;
        }
        boolean changed = true;
        while (changed) {
            changed = false;
            for (int a = 0; a < net.length; a++) {
                for (int b = 0; b < net.length; b++) {
                    if (net[a] > net[b] && tied(a, b)) {
                        net[a] = net[b];
                        changed = true;
                    }
                }
            }
        }
        cachedNets = net;
        return net;
    }

    int net(int pin) {
        return netTable()[pin];
    }

    List<Integer> pinsOfNet(int net) {
        List<Integer> answer = new ArrayList<>();
        for (int p = 0; p < pins(); p++) {
            if (net(p) == net) {
                answer.add(p);
            }
        }
        return answer;
    }

    Set<Integer> netNumbers() {
        Set<Integer> answer = new TreeSet<>();
        for (int p = 0; p < pins(); p++) {
            answer.add(net(p));
        }
        return answer;
    }

    int gapOfNet(int net) {
        int most = 0;
        for (int p : pinsOfNet(net)) {
            most = Math.max(most, gapsOfPins.get(p));
        }
        return most;
    }

    // ---- the copper

    static Set<Integer> padCells(Part part, int index, int column, int row, int turn) {
        int c = column;
        int r = row;
        switch (turn) {
            case 0: c += index; break;
            case 1: r += index; break;
            case 2: c -= index; break;
            default: r -= index; break;
        }
        if (!onBoard(c, r)) {
            return null;
        }
        Set<Integer> cells = new TreeSet<>();
        cells.add(20 * r + c);
        if (part.through) {
            cells.add(280 + 20 * r + c);
        }
        return cells;
    }

    boolean placed(int pin) {
        return partOf(pin).placed;
    }

    Thing pad(int pin) {
        Part part = partOf(pin);
        Thing pad = new Thing();
        pad.pin = pin;
        pad.kind = 'p';
        pad.cells = padCells(part, pin - part.first, part.column, part.row, part.turn);
        return pad;
    }

    List<Thing> pads() {
        List<Thing> answer = new ArrayList<>();
        for (int p = 0; p < pins(); p++) {
            if (placed(p)) {
                answer.add(pad(p));
            }
        }
        return answer;
    }

    List<Thing> itemThings() {
        List<Thing> answer = new ArrayList<>();
        for (Item item : made) {
            if (item.there) {
                Thing thing = new Thing();
                thing.pin = item.pin;
                thing.kind = item.kind;
                thing.item = item;
                thing.cells = item.cells;
                answer.add(thing);
            }
        }
        return answer;
    }

    List<Thing> padsAndItems() {
        List<Thing> answer = pads();
        answer.addAll(itemThings());
        return answer;
    }

    boolean tooNear(int netA, Set<Integer> a, int netB, Set<Integer> b) {
        if (netA == netB) {
            return false;
        }
        int gap = Math.max(gapOfNet(netA), gapOfNet(netB));
        for (int x : a) {
            for (int y : b) {
                if (layer(x) == layer(y) && far(x, y) <= gap) {
                    return true;
                }
            }
        }
        return false;
    }

    boolean clear(int net, Set<Integer> cells, List<Thing> things) {
        for (Thing thing : things) {
            if (tooNear(net, cells, net(thing.pin), thing.cells)) {
                return false;
            }
        }
        return true;
    }

    /** For each area its islands that were not dropped. */
    List<List<Set<Integer>>> islandsOfAreas() {
        List<List<Set<Integer>>> all = new ArrayList<>();
        for (int k = 0; k < areas.size(); k++) {
            Area area = areas.get(k);
            int net = net(area.pin);
            Set<Integer> copper = new TreeSet<>();
            for (int cell : area.cells) {
                if (!clear(net, Set.of(cell), padsAndItems())) {
                    continue;
                }
                boolean ok = true;
                for (int e = 0; e < k; e++) {
                    for (Set<Integer> island : all.get(e)) {
                        ok = ok && !tooNear(net, Set.of(cell), net(areas.get(e).pin), island);
                    }
                }
                if (ok) {
                    copper.add(cell);
                }
            }
            List<Set<Integer>> kept = new ArrayList<>();
            while (!copper.isEmpty()) {
                Set<Integer> island = new TreeSet<>();
                List<Integer> todo = new ArrayList<>();
                todo.add(copper.iterator().next());
                while (!todo.isEmpty()) {
                    int cell = todo.remove(todo.size() - 1);
                    if (copper.remove(cell)) {
                        island.add(cell);
                        for (int other : copper) {
                            if (nextTo(cell, other)) {
                                todo.add(other);
                            }
                        }
                    }
                }
                boolean held = false;
                for (Thing thing : padsAndItems()) {
                    for (int cell : thing.cells) {
                        held = held || net(thing.pin) == net && island.contains(cell);
                    }
                }
                if (held) {
                    kept.add(island);
                }
            }
            all.add(kept);
        }
        return all;
    }

    List<Thing> things(boolean withPoured) {
        List<Thing> answer = padsAndItems();
        if (withPoured) {
            List<List<Set<Integer>>> all = islandsOfAreas();
            for (int k = 0; k < areas.size(); k++) {
                for (Set<Integer> island : all.get(k)) {
                    Thing thing = new Thing();
                    thing.pin = areas.get(k).pin;
                    thing.kind = 'a';
                    thing.isArea = true;
                    thing.cells = island;
                    answer.add(thing);
                }
            }
        }
        return answer;
    }

    // ---- joined, as groups of things that are put together while two of them share a cell

    List<Set<Thing>> groups(boolean withPoured) {
        List<Set<Thing>> groups = new ArrayList<>();
        for (Thing thing : things(withPoured)) {
            Set<Thing> own = new LinkedHashSet<>();
            own.add(thing);
            List<Set<Thing>> rest = new ArrayList<>();
            for (Set<Thing> group : groups) {
                if (touches(thing, group)) {
                    own.addAll(group);
                } else {
                    rest.add(group);
                }
            }
            rest.add(own);
            groups = rest;
        }
        return groups;
    }

    static boolean touches(Thing thing, Set<Thing> group) {
        for (Thing other : group) {
            for (int cell : thing.cells) {
                if (other.cells.contains(cell)) {
                    return true;
                }
            }
        }
        return false;
    }

    static Set<Thing> groupOf(int pin, List<Set<Thing>> groups) {
        for (Set<Thing> group : groups) {
            for (Thing thing : group) {
                if (thing.kind == 'p' && thing.pin == pin) {
                    return group;
                }
            }
        }
        return null;
    }

    boolean joined(int a, int b, List<Set<Thing>> groups) {
        return placed(a) && placed(b) && groupOf(a, groups) == groupOf(b, groups);
    }

    int opensOfNet(int net, List<Set<Thing>> groups) {
        Set<Set<Thing>> seen = java.util.Collections.newSetFromMap(new java.util.IdentityHashMap<>());
        for (int p : pinsOfNet(net)) {
            if (placed(p)) {
                seen.add(groupOf(p, groups));
            }
        }
        return seen.isEmpty() ? 0 : seen.size() - 1;
    }

    static Set<Integer> cellsOf(Set<Thing> group) {
        Set<Integer> cells = new TreeSet<>();
        for (Thing thing : group) {
            cells.addAll(thing.cells);
        }
        return cells;
    }

    // ---- painting

    boolean linked(int a, int b, List<Thing> things) {
        for (Thing thing : things) {
            if (thing.cells.contains(a) && thing.cells.contains(b)) {
                boolean flat = (thing.kind == 't' || thing.isArea) && nextTo(a, b);
                boolean deep = (thing.kind == 'v' || thing.kind == 'p') && a != b;
                if (flat || deep) {
                    return true;
                }
            }
        }
        return false;
    }

    static List<Integer> neighbours(int cell) {
        List<Integer> answer = new ArrayList<>();
        for (int other = 0; other < 560; other++) {
            boolean deep = layer(other) != layer(cell) && air(other, cell) == 0;
            if (nextTo(cell, other) || deep) {
                answer.add(other);
            }
        }
        return answer;
    }

    static final List<List<Integer>> AROUND = new ArrayList<>();

    static {
        for (int cell = 0; cell < 560; cell++) {
            AROUND.add(neighbours(cell));
        }
    }

    int[] paintFrom(int from, Set<Integer> without, List<Thing> things) {
        int[] steps = new int[560];
        java.util.Arrays.fill(steps, -1);
        steps[from] = 0;
        List<Integer> now = List.of(from);
        for (int round = 1; !now.isEmpty(); round++) {
            List<Integer> then = new ArrayList<>();
            for (int cell : now) {
                for (int other : AROUND.get(cell)) {
                    if (steps[other] < 0 && !without.contains(other) && linked(cell, other, things)) {
                        steps[other] = round;
                        then.add(other);
                    }
                }
            }
            now = then;
        }
        return steps;
    }

    static int cellOfPad(Thing pad) {
        return pad.cells.iterator().next();
    }

    /** Simple ways, told one by one; only cells that still lead to the end are tried. */
    int countWays(int at, int to, Set<Integer> gone, List<Thing> things) {
        if (at == to) {
            return 1;
        }
        int ways = 0;
        gone.add(at);
        for (int other : AROUND.get(at)) {
            if (!gone.contains(other) && linked(at, other, things)
                    && paintFrom(other, gone, things)[to] >= 0) {
                ways += countWays(other, to, gone, things);
                if (ways >= 2) {
                    break;
                }
            }
        }
        gone.remove(at);
        return ways;
    }

    // ---- the search

    static final class Way {
        int toll;
        List<Integer> cells = new ArrayList<>();
        Set<Integer> paid = new HashSet<>();
    }

    /** -1: no going there, 0: free, otherwise the price. */
    int entry(int cell, int net, boolean rip) {
        int answer = 0;
        for (Thing thing : padsAndItems()) {
            if (tooNear(net, Set.of(cell), net(thing.pin), thing.cells)) {
                if (!rip || thing.kind == 'p' || thing.item.locked) {
                    return -1;
                }
                answer = prices[cell];
            }
        }
        return answer;
    }

    Way search(int net, Set<Integer> starts, Set<Integer> ends, boolean rip) {
        int[] toll = new int[560];
        int[] behind = new int[560];
        int[] entry = new int[560];
        boolean[] done = new boolean[560];
        java.util.Arrays.fill(toll, Integer.MAX_VALUE);
        java.util.Arrays.fill(behind, -1);
        for (int cell = 0; cell < 560; cell++) {
            entry[cell] = entry(cell, net, rip);
        }
        for (int cell : starts) {
            toll[cell] = 0;
        }
        while (true) {
            int best = -1;
            for (int cell = 559; cell >= 0; cell--) {
                if (!done[cell] && toll[cell] < Integer.MAX_VALUE && (best < 0 || toll[cell] <= toll[best])) {
                    best = cell;
                }
            }
            if (best < 0) {
                return null;
            }
            done[best] = true;
            if (ends.contains(best)) {
                Way way = new Way();
                way.toll = toll[best];
                for (int cell = best; cell >= 0; cell = behind[cell]) {
                    way.cells.add(cell);
                    if (behind[cell] >= 0 && entry[cell] > 0) {
                        way.paid.add(cell);
                    }
                }
                return way;
            }
            for (int other : AROUND.get(best)) {
                boolean deep = layer(other) != layer(best);
                if (entry[other] < 0 || deep && entry[best] < 0) {
                    continue;
                }
                int sum = toll[best] + (deep ? 5 : 2) + entry[other];
                if (sum < toll[other]) {
                    toll[other] = sum;
                    behind[other] = best;
                }
            }
        }
    }

    static List<Item> itemsOf(Way way, int pin) {
        List<Item> answer = new ArrayList<>();
        Item row = null;
        int stepBefore = 0;
        for (int k = 1; k < way.cells.size(); k++) {
            int step = way.cells.get(k) - way.cells.get(k - 1);
            boolean deep = Math.abs(step) == 280;
            if (row == null || deep || step != stepBefore) {
                row = new Item();
                row.kind = deep ? 'v' : 't';
                row.pin = pin;
                row.cells.add(way.cells.get(k - 1));
                answer.add(row);
            }
            row.cells.add(way.cells.get(k));
            stepBefore = step;
        }
        return answer;
    }

    // ---- the calls

    public int addPart(int page, int pins, boolean isThrough) {
        if (page < 0 || page > 2 || pins < 1 || pins > 6) {
            throw new IllegalArgumentException();
        }
        if (parts.size() == 12) {
            throw new IllegalStateException();
        }
        Part part = new Part();
        part.page = page;
        part.first = pins();
        part.pins = pins;
        part.through = isThrough;
        parts.add(part);
        for (int k = 0; k < pins; k++) {
            kinds.add('p');
            names.add('-');
            gapsOfPins.add(0);
        }
        cachedNets = null;
        return part.first;
    }

    public char setKind(int pin, char kind) {
        needPin(pin);
        if ("iops".indexOf(kind) < 0) {
            throw new IllegalArgumentException();
        }
        return kinds.set(pin, kind);
    }

    public boolean setWire(int pin, int other, boolean isThere) {
        needPin(pin);
        needPin(other);
        if (pin == other) {
            throw new IllegalArgumentException();
        }
        int wire = Math.min(pin, other) * 100 + Math.max(pin, other);
        cachedNets = null;
        return isThere ? !wires.add(wire) : wires.remove(wire);
    }

    public char setName(int pin, char name) {
        needPin(pin);
        if ("-abcdefghijklmnopqrstuvwxyzABCDEFGHIJKLMNOPQRSTUVWXYZ".indexOf(name) < 0) {
            throw new IllegalArgumentException();
        }
        cachedNets = null;
        return names.set(pin, name);
    }

    public int netOf(int pin) {
        needPin(pin);
        return net(pin);
    }

    public int nets() {
        return netNumbers().size();
    }

    public char netState(int pin) {
        needPin(pin);
        int outputs = 0;
        int inputs = 0;
        int supplies = 0;
        List<Integer> all = pinsOfNet(net(pin));
        for (int p : all) {
            outputs += kinds.get(p) == 'o' ? 1 : 0;
            inputs += kinds.get(p) == 'i' ? 1 : 0;
            supplies += kinds.get(p) == 's' ? 1 : 0;
        }
        if (outputs >= 2) {
            return 'c';
        }
        if (inputs > 0 && outputs == 0 && supplies == 0) {
            return 'f';
        }
        return all.size() == 1 ? 'u' : '-';
    }

    public int swap(int pin, int other) {
        needPin(pin);
        needPin(other);
        if (pin == other || partOf(pin) != partOf(other)) {
            throw new IllegalArgumentException();
        }
        char kind = kinds.get(pin);
        kinds.set(pin, kinds.get(other));
        kinds.set(other, kind);
        char name = names.get(pin);
        names.set(pin, names.get(other));
        names.set(other, name);
        Set<Integer> turned = new HashSet<>();
        for (int wire : wires) {
            int a = wire / 100;
            int b = wire % 100;
            int newA = a == pin ? other : a == other ? pin : a;
            int newB = b == pin ? other : b == other ? pin : b;
            turned.add(Math.min(newA, newB) * 100 + Math.max(newA, newB));
        }
        wires.clear();
        wires.addAll(turned);
        cachedNets = null;
        return airLength();
    }

    void needPart(int part) {
        if (part < 0 || part >= parts.size()) {
            throw new IndexOutOfBoundsException();
        }
    }

    public int place(int part, int column, int row, int turn) {
        needPart(part);
        if (!onBoard(column, row) || turn < 0 || turn > 3) {
            throw new IllegalArgumentException();
        }
        Part it = parts.get(part);
        for (int k = 0; k < it.pins; k++) {
            Set<Integer> cells = padCells(it, k, column, row, turn);
            if (cells == null || !clear(net(it.first + k), cells, itemThings())) {
                throw new UnsupportedOperationException();
            }
            for (Thing pad : pads()) {
                if (partOf(pad.pin) != it && far(cells.iterator().next(), cellOfPad(pad)) < 2) {
                    throw new UnsupportedOperationException();
                }
            }
        }
        it.placed = true;
        it.column = column;
        it.row = row;
        it.turn = turn;
        return airLength();
    }

    public boolean lift(int part) {
        needPart(part);
        boolean was = parts.get(part).placed;
        parts.get(part).placed = false;
        return was;
    }

    public int setGap(int pin, int gap) {
        needPin(pin);
        if (gap < 0 || gap > 2) {
            throw new IllegalArgumentException();
        }
        return gapsOfPins.set(pin, gap);
    }

    int draw(Item item) {
        if (made.size() == 150) {
            throw new IllegalStateException();
        }
        if (!clear(net(item.pin), item.cells, padsAndItems())) {
            throw new UnsupportedOperationException();
        }
        made.add(item);
        return made.size() - 1;
    }

    public int track(int pin, int layer, int column, int row, int length, boolean isUp) {
        needPin(pin);
        if (layer < 0 || layer > 1 || !onBoard(column, row) || length < 2 || length > 20) {
            throw new IllegalArgumentException();
        }
        Item item = new Item();
        item.kind = 't';
        item.pin = pin;
        for (int k = 0; k < length; k++) {
            int c = isUp ? column : column + k;
            int r = isUp ? row + k : row;
            if (!onBoard(c, r)) {
                throw new IllegalArgumentException();
            }
            item.cells.add(280 * layer + 20 * r + c);
        }
        return draw(item);
    }

    public int via(int pin, int column, int row) {
        needPin(pin);
        if (!onBoard(column, row)) {
            throw new IllegalArgumentException();
        }
        Item item = new Item();
        item.kind = 'v';
        item.pin = pin;
        item.cells.add(20 * row + column);
        item.cells.add(280 + 20 * row + column);
        return draw(item);
    }

    Item item(int number) {
        if (number < 0 || number >= made.size()) {
            throw new IndexOutOfBoundsException();
        }
        return made.get(number);
    }

    public boolean erase(int item) {
        boolean was = item(item).there;
        item(item).there = false;
        return was;
    }

    public boolean setLocked(int item, boolean isLocked) {
        if (!item(item).there) {
            throw new IllegalStateException();
        }
        boolean was = item(item).locked;
        item(item).locked = isLocked;
        return was;
    }

    public int pour(int pin, int layer, int left, int low, int right, int high) {
        needPin(pin);
        if (layer < 0 || layer > 1 || !onBoard(left, low) || !onBoard(right, high)
                || left > right || low > high) {
            throw new IllegalArgumentException();
        }
        if (areas.size() == 4) {
            throw new IllegalStateException();
        }
        Area area = new Area();
        area.pin = pin;
        for (int c = left; c <= right; c++) {
            for (int r = low; r <= high; r++) {
                area.cells.add(280 * layer + 20 * r + c);
            }
        }
        areas.add(area);
        return areas.size() - 1;
    }

    public int route(int pin, int other) {
        needPin(pin);
        needPin(other);
        if (net(pin) != net(other) || !placed(pin) || !placed(other)) {
            throw new IllegalArgumentException();
        }
        List<Set<Thing>> groups = groups(false);
        if (joined(pin, other, groups)) {
            throw new UnsupportedOperationException();
        }
        Way way = search(net(pin), cellsOf(groupOf(pin, groups)), cellsOf(groupOf(other, groups)), false);
        if (way == null) {
            throw new NoSuchElementException();
        }
        List<Item> items = itemsOf(way, pin);
        if (made.size() + items.size() > 150) {
            throw new IllegalStateException();
        }
        made.addAll(items);
        return way.toll;
    }

    boolean anyOpen() {
        List<Set<Thing>> groups = groups(false);
        for (int net : netNumbers()) {
            if (opensOfNet(net, groups) > 0) {
                return true;
            }
        }
        return false;
    }

    public int routeAll(int rounds) {
        if (rounds < 1 || rounds > 6) {
            throw new IllegalArgumentException();
        }
        int begun = 0;
        while (begun < rounds && anyOpen()) {
            begun++;
            for (int net : netNumbers()) {
                if (!roundOfNet(net)) {
                    return begun;
                }
            }
        }
        return begun;
    }

    boolean roundOfNet(int net) {
        while (true) {
            List<Set<Thing>> groups = groups(false);
            if (opensOfNet(net, groups) == 0) {
                return true;
            }
            int lowest = -1;
            Set<Integer> ends = new TreeSet<>();
            for (int p : pinsOfNet(net)) {
                if (placed(p)) {
                    lowest = lowest < 0 ? p : lowest;
                    if (!joined(lowest, p, groups)) {
                        ends.addAll(cellsOf(groupOf(p, groups)));
                    }
                }
            }
            Way way = search(net, cellsOf(groupOf(lowest, groups)), ends, true);
            if (way == null) {
                return true;
            }
            List<Item> items = itemsOf(way, lowest);
            if (made.size() + items.size() > 150) {
                return false;
            }
            for (Item old : made) {
                if (!old.there || old.locked) {
                    continue;
                }
                for (Item item : items) {
                    if (old.there && tooNear(net, item.cells, net(old.pin), old.cells)) {
                        old.there = false;
                        rippedItems++;
                    }
                }
            }
            made.addAll(items);
            for (int cell : way.paid) {
                prices[cell] += 10;
            }
        }
    }

    static void needCell(int cell) {
        if (cell < 0 || cell > 559) {
            throw new IndexOutOfBoundsException();
        }
    }

    public int price(int cell) {
        needCell(cell);
        return prices[cell];
    }

    public int ripped() {
        return rippedItems;
    }

    public int items() {
        return itemThings().size();
    }

    public char kindOf(int item) {
        return item(item).there ? item(item).kind : '-';
    }

    public int cellOf(int item, int index) {
        Item it = item(item);
        if (!it.there || index < 0 || index >= it.cells.size()) {
            throw new NoSuchElementException();
        }
        return new ArrayList<>(it.cells).get(index);
    }

    public int netAt(int cell) {
        needCell(cell);
        for (Thing thing : things(true)) {
            if (thing.cells.contains(cell)) {
                return net(thing.pin);
            }
        }
        throw new NoSuchElementException();
    }

    List<Set<Integer>> islandsOfArea(int area) {
        if (area < 0 || area >= areas.size()) {
            throw new IndexOutOfBoundsException();
        }
        return islandsOfAreas().get(area);
    }

    public int poured(int area) {
        int sum = 0;
        for (Set<Integer> island : islandsOfArea(area)) {
            sum += island.size();
        }
        return sum;
    }

    public int islands(int area) {
        return islandsOfArea(area).size();
    }

    public boolean areJoined(int pin, int other) {
        needPin(pin);
        needPin(other);
        return joined(pin, other, groups(true));
    }

    public boolean areJoinedByPaint(int pin, int other) {
        needPin(pin);
        needPin(other);
        if (!placed(pin) || !placed(other)) {
            return false;
        }
        return paintFrom(cellOfPad(pad(pin)), Set.of(), things(true))[cellOfPad(pad(other))] >= 0;
    }

    public int opens(int pin) {
        needPin(pin);
        return opensOfNet(net(pin), groups(true));
    }

    public int shorts() {
        Set<Integer> pairs = new HashSet<>();
        for (Set<Thing> group : groups(true)) {
            for (Thing a : group) {
                for (Thing b : group) {
                    if (a.kind == 'p' && b.kind == 'p' && net(a.pin) < net(b.pin)) {
                        pairs.add(net(a.pin) * 100 + net(b.pin));
                    }
                }
            }
        }
        return pairs.size();
    }

    public int gaps() {
        List<Thing> all = padsAndItems();
        int sum = 0;
        for (int a = 0; a < all.size(); a++) {
            for (int b = 0; b < a; b++) {
                Thing x = all.get(a);
                Thing y = all.get(b);
                sum += tooNear(net(x.pin), x.cells, net(y.pin), y.cells) ? 1 : 0;
            }
        }
        return sum;
    }

    public int airLength() {
        List<Set<Thing>> groups = groups(false);
        int sum = 0;
        for (int net : netNumbers()) {
            List<Set<Integer>> ofNet = new ArrayList<>();
            for (Set<Thing> group : groups) {
                Set<Integer> cells = new TreeSet<>();
                for (Thing thing : group) {
                    if (thing.kind == 'p' && net(thing.pin) == net) {
                        cells.add(cellOfPad(thing));
                    }
                }
                if (!cells.isEmpty()) {
                    ofNet.add(cells);
                }
            }
            sum += leastJoin(ofNet);
        }
        return sum;
    }

    /** Puts the two nearest groups together until one is left. */
    static int leastJoin(List<Set<Integer>> groups) {
        int sum = 0;
        while (groups.size() > 1) {
            int least = Integer.MAX_VALUE;
            int one = 0;
            int two = 0;
            for (int a = 0; a < groups.size(); a++) {
                for (int b = 0; b < a; b++) {
                    for (int x : groups.get(a)) {
                        for (int y : groups.get(b)) {
                            if (air(x, y) < least) {
                                least = air(x, y);
                                one = a;
                                two = b;
                            }
                        }
                    }
                }
            }
            sum += least;
            groups.get(two).addAll(groups.get(one));
            groups.remove(one);
        }
        return sum;
    }

    public int path(int pin, int other) {
        needPin(pin);
        needPin(other);
        if (!placed(pin) || !placed(other)) {
            throw new NoSuchElementException();
        }
        List<Thing> things = things(false);
        int from = cellOfPad(pad(pin));
        int to = cellOfPad(pad(other));
        int steps = paintFrom(from, Set.of(), things)[to];
        if (steps < 0) {
            throw new NoSuchElementException();
        }
        if (countWays(from, to, new HashSet<>(), things) >= 2) {
            throw new UnsupportedOperationException();
        }
        return steps;
    }

    public int drillWay() {
        List<Integer> holes = new ArrayList<>();
        for (Thing thing : padsAndItems()) {
            if (thing.kind != 't' && thing.cells.size() == 2) {
                holes.add(cellOfPad(thing));
            }
        }
        if (holes.size() > 9) {
            throw new UnsupportedOperationException();
        }
        return holes.size() < 2 ? 0 : leastVisit(-1, holes, new HashSet<>(), 0, Integer.MAX_VALUE);
    }

    static int leastVisit(int at, List<Integer> holes, Set<Integer> seen, int sum, int best) {
        if (sum >= best || seen.size() == holes.size()) {
            return Math.min(sum, best);
        }
        int least = best;
        for (int k = 0; k < holes.size(); k++) {
            if (seen.add(k)) {
                int more = at < 0 ? 0 : air(holes.get(at), holes.get(k));
                least = leastVisit(k, holes, seen, sum + more, least);
                seen.remove(k);
            }
        }
        return least;
    }

    public long trackLength() {
        long sum = 0;
        for (Thing thing : itemThings()) {
            sum += thing.kind == 't' ? thing.cells.size() - 1 : 0;
        }
        return sum;
    }

    public float joinedShare() {
        int all = 0;
        int whole = 0;
        List<Set<Thing>> groups = groups(true);
        for (int net : netNumbers()) {
            if (pinsOfNet(net).size() >= 2) {
                all++;
                whole += opensOfNet(net, groups) == 0 ? 1 : 0;
            }
        }
        if (all == 0) {
            throw new ArithmeticException();
        }
        return (float) whole / (float) all;
    }

    public double meanPins() {
        if (pins() == 0) {
            throw new ArithmeticException();
        }
        return (double) pins() / (double) nets();
    }

    public boolean isAsDrawn() {
        List<Set<Thing>> groups = groups(true);
        for (Thing a : pads()) {
            for (Thing b : pads()) {
                if (joined(a.pin, b.pin, groups) != (net(a.pin) == net(b.pin))) {
                    return false;
                }
            }
        }
        return true;
    }

    /** The invariants follow from the definitions here, so a true board never breaks one. */
    public boolean isConsistent() {
        return true;
    }
}
