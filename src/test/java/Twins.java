import java.util.ArrayList;
import java.util.HashMap;
import java.util.List;
import java.util.Map;

/**
 * Holds two boards with the same calls behind them against each other, one of which has refused a call
 * besides. Each pair of them answers some questions alone, so that no object has more calls than the
 * 512 that the document promises answers for.
 */
final class Twins {
    interface Act {
        void on(Coppertrace board);
    }

    interface Question {
        Object ask(Coppertrace board);
    }

    /** Scenes have 330 calls at most: with the refused one and these, 512 are not gone beyond. */
    private static final int MOST_QUESTIONS = 180;
    private static final List<List<Question>> QUESTIONS = new ArrayList<>();

    static {
        addQuestions(sheet());
        addQuestions(ownOfPins());
        addQuestions(wires());
        addQuestions(items());
        addQuestions(locks());
        addQuestions(cells());
        addQuestions(prices());
        addQuestions(whole());
        addQuestions(numbersToCome());
        addQuestions(searchesToCome());
    }

    private final Check check;
    private final Map<Act, List<String>> answers = new HashMap<>();

    Twins(Check check) {
        this.check = check;
    }

    /** The call must throw just this class, by a throw of its own, and leave all as it was. */
    void refused(String what, Act scene, Class<? extends RuntimeException> due, Act call) {
        Coppertrace board = new Coppertrace();
        scene.on(board);
        check.same(what, thrown(board, call), due.getName());
        check.same(what + ": changed", told(scene, call), told(scene));
    }

    private static String thrown(Coppertrace board, Act call) {
        try {
            call.on(board);
            return "nothing";
        } catch (ArithmeticException e) {
            // The machine's own one, of a division, has a message; those of the class have none.
            return e.getMessage() == null ? e.getClass().getName() : e.toString();
        } catch (RuntimeException e) {
            return e.getClass().getName();
        }
    }

    private List<String> told(Act scene) {
        if (!answers.containsKey(scene)) {
            answers.put(scene, told(scene, board -> { }));
        }
        return answers.get(scene);
    }

    private static List<String> told(Act scene, Act call) {
        List<String> all = new ArrayList<>();
        for (List<Question> questions : QUESTIONS) {
            Coppertrace board = new Coppertrace();
            scene.on(board);
            thrown(board, call);
            for (Question question : questions) {
                all.add(answer(board, question));
            }
        }
        return all;
    }

    private static String answer(Coppertrace board, Question question) {
        try {
            return String.valueOf(question.ask(board));
        } catch (RuntimeException e) {
            return e.getClass().getSimpleName();
        }
    }

    private static void addQuestions(List<Question> all) {
        for (int from = 0; from < all.size(); from += MOST_QUESTIONS) {
            QUESTIONS.add(all.subList(from, Math.min(all.size(), from + MOST_QUESTIONS)));
        }
    }

    private static List<Question> sheet() {
        List<Question> all = new ArrayList<>();
        for (int number = 0; number < 72; number++) {
            int pin = number;
            all.add(board -> board.netOf(pin));
            all.add(board -> board.netState(pin));
            all.add(board -> board.opens(pin));
        }
        return all;
    }

    private static List<Question> ownOfPins() {
        List<Question> all = new ArrayList<>();
        for (int number = 0; number < 72; number++) {
            int pin = number;
            all.add(board -> board.setKind(pin, 'p'));
            all.add(board -> board.setName(pin, '-'));
            all.add(board -> board.setGap(pin, 0));
        }
        return all;
    }

    private static List<Question> wires() {
        List<Question> all = new ArrayList<>();
        for (int number = 0; number < 72 * 72; number++) {
            int pin = number / 72;
            int other = number % 72;
            if (pin < other) {
                all.add(board -> board.setWire(pin, other, false));
            }
        }
        return all;
    }

    private static List<Question> items() {
        List<Question> all = new ArrayList<>();
        for (int number = 0; number < 150; number++) {
            int item = number;
            all.add(board -> board.kindOf(item));
            all.add(board -> board.cellOf(item, 0));
            all.add(board -> board.cellOf(item, 1));
        }
        return all;
    }

    private static List<Question> locks() {
        List<Question> all = new ArrayList<>();
        for (int number = 0; number < 150; number++) {
            int item = number;
            all.add(board -> board.setLocked(item, true));
        }
        return all;
    }

    private static List<Question> cells() {
        List<Question> all = new ArrayList<>();
        for (int number = 0; number < 560; number++) {
            int cell = number;
            all.add(board -> board.netAt(cell));
        }
        return all;
    }

    private static List<Question> prices() {
        List<Question> all = new ArrayList<>();
        for (int number = 0; number < 560; number++) {
            int cell = number;
            all.add(board -> board.price(cell));
        }
        return all;
    }

    private static List<Question> whole() {
        List<Question> all = new ArrayList<>();
        all.add(Coppertrace::nets);
        all.add(Coppertrace::items);
        all.add(Coppertrace::ripped);
        all.add(Coppertrace::shorts);
        all.add(Coppertrace::gaps);
        all.add(Coppertrace::airLength);
        all.add(Coppertrace::drillWay);
        all.add(Coppertrace::trackLength);
        all.add(Coppertrace::joinedShare);
        all.add(Coppertrace::meanPins);
        all.add(Coppertrace::isAsDrawn);
        all.add(Coppertrace::isConsistent);
        for (int number = 0; number < 4; number++) {
            int area = number;
            all.add(board -> board.poured(area));
            all.add(board -> board.islands(area));
        }
        return all;
    }

    /** What is made next has the next number, and what is lifted was placed, or was not. */
    private static List<Question> numbersToCome() {
        List<Question> all = new ArrayList<>();
        for (int number = 0; number < 12; number++) {
            int part = number;
            all.add(board -> board.lift(part));
        }
        all.add(board -> board.addPart(0, 1, true));
        all.add(board -> board.pour(0, 0, 0, 0, 0, 0));
        all.add(board -> board.via(0, 19, 13));
        all.add(board -> board.track(0, 1, 18, 13, 2, false));
        return all;
    }

    private static List<Question> searchesToCome() {
        List<Question> all = new ArrayList<>();
        for (int number = 1; number < 12; number++) {
            int pin = number;
            all.add(board -> board.route(0, pin));
        }
        all.add(board -> board.routeAll(3));
        all.add(Coppertrace::ripped);
        all.add(Coppertrace::trackLength);
        for (int number = 0; number < 40; number++) {
            int item = number;
            all.add(board -> board.cellOf(item, 0));
        }
        return all;
    }
}
