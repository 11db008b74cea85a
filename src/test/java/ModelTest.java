import java.lang.reflect.InvocationTargetException;
import java.lang.reflect.Method;
import java.util.ArrayList;
import java.util.List;
import java.util.Random;

/** Runs of calls, the same in each run of the test, on the class and on its naive second writing. */
public final class ModelTest {
    private static final String[] SHEET = {"addPart", "setKind", "setWire", "setName", "setGap"};
    private static final String[] LOOKS = {
        "netOf", "nets", "netState", "price", "ripped", "items", "kindOf", "cellOf", "netAt", "poured",
        "islands", "areJoined", "areJoinedByPaint", "opens", "shorts", "gaps", "airLength", "path",
        "drillWay", "trackLength", "joinedShare", "meanPins", "isAsDrawn", "isConsistent"};
    private static final String[] ACTS = {
        "place", "place", "place", "lift", "track", "track", "track", "via", "via", "erase", "setLocked",
        "pour", "route", "route", "route", "routeAll", "swap", "setGap", "setWire", "setName"};

    private static final String[] SEARCHES = {
        "route", "routeAll", "routeAll", "setGap", "setLocked", "setLocked", "place", "lift", "track", "erase",
        "swap", "path", "opens", "ripped", "price", "gaps", "shorts", "isAsDrawn"};
    private static final String[] LOOPS = {
        "track", "track", "track", "via", "path", "path", "route", "route", "routeAll", "erase", "areJoined",
        "areJoinedByPaint", "drillWay"};

    private final Random random;
    private final Coppertrace real = new Coppertrace();
    private final Naive model = new Naive();
    private final List<String> story = new ArrayList<>();
    private int wrong;
    private int calls;
    private final int width;
    private final int height;
    private final boolean isWild;

    private final String[] acts;
    private final boolean isCrowded;
    private final boolean isFull;

    private ModelTest(long seed) {
        random = new Random(seed);
        acts = seed % 4 == 1 ? SEARCHES : seed % 4 == 2 ? LOOPS : ACTS;
        isCrowded = seed % 8 == 1 || seed % 8 == 3;
        isFull = seed % 32 == 4;
        // Small corners of the board make copper meet more often.
        width = isFull ? 20 : acts == LOOPS ? 6 + random.nextInt(4) : 4 + random.nextInt(17);
        height = isFull ? 14 : acts == LOOPS ? 5 + random.nextInt(4) : 4 + random.nextInt(11);
        isWild = random.nextInt(4) == 0;
    }

    public static void main(String[] args) {
        int runs = args.length > 0 ? Integer.parseInt(args[0]) : 700;
        long from = args.length > 1 ? Long.parseLong(args[1]) : 0;
        int good = 0;
        int bad = 0;
        for (long seed = from; seed < from + runs; seed++) {
            ModelTest test = new ModelTest(seed);
            test.run();
            if (test.wrong > 0) {
                bad++;
                System.out.println("seed " + seed + " went wrong behind " + test.story);
            } else {
                good++;
            }
        }
        System.out.println("ModelTest: " + good + " passed, " + bad + " failed");
        System.exit(bad > 0 ? 1 : 0);
    }

    private void run() {
        if (isFull) {
            fillBoard();
        }
        int parts = acts == LOOPS ? 2 + random.nextInt(2) : 1 + random.nextInt(8);
        for (int k = 0; k < parts && wrong == 0; k++) {
            call("addPart", random.nextInt(3), 1 + random.nextInt(random.nextBoolean() ? 2 : 6), random.nextBoolean());
        }
        for (int pin = 1; acts == LOOPS && pin < model.pins() && wrong == 0; pin++) {
            call("setWire", 0, pin, true);
        }
        int ties = acts == LOOPS ? 0 : random.nextInt(14);
        for (int k = 0; k < ties && wrong == 0; k++) {
            callAny(SHEET[1 + random.nextInt(3)]);
        }
        for (int k = 0; k < (acts == LOOPS ? 4 * parts : parts) && wrong == 0; k++) {
            callAny("place");
        }
        for (int k = 0; isCrowded && k < 60 + random.nextInt(90) && wrong == 0; k++) {
            if (random.nextInt(3) == 0) {
                callAny(random.nextBoolean() ? "track" : "via");
            } else {
                // Items that come and go use their numbers up all the same.
                call("via", 0, width - 1, height - 1);
                call("erase", model.made.size() - 1);
            }
        }
        int length = 20 + random.nextInt(60);
        for (int k = 0; k < length && wrong == 0 && calls < 480; k++) {
            callAny(acts[random.nextInt(acts.length)]);
            if (random.nextInt(5) == 0) {
                callAny(SHEET[random.nextInt(SHEET.length)]);
            }
            int looks = random.nextInt(3);
            for (int n = 0; n < looks && wrong == 0; n++) {
                callAny(LOOKS[random.nextInt(LOOKS.length)]);
            }
        }
        for (String look : LOOKS) {
            if (wrong == 0) {
                callAny(look);
            }
        }
    }

    /** All twelve parts, four areas and most of the 150 items, before anything else is called. */
    private void fillBoard() {
        for (int part = 0; part < 12; part++) {
            call("addPart", random.nextInt(3), 6, random.nextBoolean());
            for (int pin = 6 * part; pin < 6 * part + 6 && random.nextInt(4) > 0; pin++) {
                call("setName", pin, "abcdABCD".charAt(random.nextInt(8)));
            }
        }
        for (int k = 0; k < 4; k++) {
            callAny("pour");
        }
        for (int k = 0; k < 60; k++) {
            callAny("place");
        }
        for (int k = 0; k < 60; k++) {
            callAny(random.nextBoolean() ? "track" : "via");
        }
        int most = 110 + random.nextInt(40);
        for (int k = 0; k < 70 && model.made.size() < most; k++) {
            callAny("via");
            call("erase", Math.max(0, model.made.size() - 1));
        }
    }

    private int number(int bound) {
        return isWild && random.nextInt(6) == 0 ? random.nextInt(bound + 4) - 2 : random.nextInt(Math.max(1, bound));
    }

    private int pin() {
        return number(model.pins());
    }

    private int item() {
        return number(model.made.size());
    }

    private void callAny(String name) {
        switch (name) {
            case "addPart": call(name, number(3), 1 + number(6), random.nextBoolean()); break;
            case "setKind": call(name, pin(), "iopsx".charAt(random.nextInt(isWild ? 5 : 4))); break;
            case "setWire": case "swap": case "route": case "path": case "areJoined": case "areJoinedByPaint":
                callOnTwo(name);
                break;
            case "setName": call(name, pin(), "abABZz-*".charAt(random.nextInt(isWild ? 8 : 7))); break;
            case "place": call(name, number(model.parts.size()), number(width), number(height), number(4)); break;
            case "lift": call(name, number(model.parts.size())); break;
            case "setGap": call(name, pin(), random.nextInt(3) == 0 ? number(3) : 0); break;
            case "track":
                call(name, pin(), number(2), number(width), number(height), 2 + number(8), random.nextBoolean());
                break;
            case "via": call(name, pin(), number(width), number(height)); break;
            case "setLocked": call(name, item(), random.nextBoolean()); break;
            case "pour":
                call(name, pin(), number(2), number(width / 2), number(height / 2),
                        width / 2 + number(width - width / 2), height / 2 + number(height - height / 2));
                break;
            case "routeAll": call(name, 1 + number(6)); break;
            case "price": call(name, number(560)); break;
            case "netAt": call(name, 280 * number(2) + 20 * number(height) + number(width)); break;
            case "erase": case "kindOf": call(name, item()); break;
            case "cellOf": call(name, item(), number(6)); break;
            case "poured": case "islands": call(name, number(model.areas.size())); break;
            case "netOf": case "netState": case "opens": call(name, pin()); break;
            default: call(name); break;
        }
    }

    private void callOnTwo(String name) {
        int pin = pin();
        int other = pin();
        for (int tries = 0; tries < 40 && !isWild && !fits(name, pin, other); tries++) {
            pin = pin();
            other = pin();
        }
        if (name.equals("setWire")) {
            call(name, pin, other, random.nextInt(4) > 0);
        } else {
            call(name, pin, other);
        }
    }

    private boolean fits(String name, int pin, int other) {
        if (pin == other || pin < 0 || other < 0 || pin >= model.pins() || other >= model.pins()) {
            return false;
        }
        if (name.equals("swap")) {
            return model.partOf(pin) == model.partOf(other);
        }
        return name.equals("setWire") || model.net(pin) == model.net(other);
    }

    private void call(String name, Object... values) {
        calls++;
        String got = answer(real, name, values);
        String due = answer(model, name, values);
        story.add(name + java.util.Arrays.toString(values) + "=" + due);
        if (!got.equals(due)) {
            wrong++;
            story.add("BUT GOT " + got);
        }
    }

    private static String answer(Object object, String name, Object... values) {
        for (Method method : object.getClass().getDeclaredMethods()) {
            if (method.getName().equals(name) && method.getParameterCount() == values.length) {
                try {
                    return String.valueOf(method.invoke(object, values));
                } catch (InvocationTargetException e) {
                    if (e.getCause().getStackTrace()[0].getClassName().startsWith("java.")) {
                        return "the machine's or the library's own " + e.getCause();
                    }
                    return "throws " + e.getCause().getClass().getName();
                } catch (IllegalAccessException e) {
                    throw new IllegalStateException(e);
                }
            }
        }
        throw new IllegalStateException(name);
    }
}
