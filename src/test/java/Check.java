/** Counts the answers that are as due and those that are not. */
final class Check {
    interface Call {
        Object now();
    }

    private final String name;
    private int passed;
    private int failed;

    Check(String name) {
        this.name = name;
    }

    void same(String what, Object got, Object due) {
        if (got.equals(due)) {
            passed++;
        } else {
            failed++;
            System.out.println(name + ": " + what + " answered " + got + ", due is " + due);
        }
    }

    /** The call must throw just this class, by a throw of its own, and leave all answers as they were. */
    void refused(String what, Coppertrace board, Class<? extends RuntimeException> due, Call call) {
        String before = look(board);
        same(what, outcome(call), due.getName());
        same(what + " changes", look(board), before);
    }

    /** The call must throw just this class; RefusedTest tells whether such a call changes nothing. */
    void thrown(String what, Class<? extends RuntimeException> due, Call call) {
        same(what, outcome(call), due.getName());
    }

    private static String outcome(Call call) {
        try {
            return "the answer " + call.now();
        } catch (RuntimeException e) {
            return e.getClass().getName();
        }
    }

    int end() {
        System.out.println(name + ": " + passed + " passed, " + failed + " failed");
        return failed > 0 ? 1 : 0;
    }

    /** All that the looking calls tell of a board. */
    static String look(Coppertrace board) {
        StringBuilder all = new StringBuilder();
        for (int pin = 0; pin < 72 && has(board, pin); pin++) {
            all.append(board.netOf(pin)).append(board.netState(pin)).append(board.opens(pin)).append(' ');
        }
        for (int item = 0; item < 150; item++) {
            int number = item;
            all.append(outcome(() -> board.kindOf(number))).append(outcome(() -> board.cellOf(number, 0)))
                    .append(outcome(() -> board.cellOf(number, 1))).append(' ');
        }
        for (int cell = 0; cell < 560; cell++) {
            int number = cell;
            all.append(board.price(cell)).append(outcome(() -> board.netAt(number))).append(' ');
        }
        for (int area = 0; area < 4; area++) {
            int number = area;
            all.append(outcome(() -> board.poured(number))).append(outcome(() -> board.islands(number))).append(' ');
        }
        all.append(board.nets()).append(' ').append(board.items()).append(' ').append(board.ripped()).append(' ');
        all.append(board.shorts()).append(' ').append(board.gaps()).append(' ').append(board.airLength());
        all.append(' ').append(board.trackLength()).append(board.isAsDrawn()).append(board.isConsistent());
        return all.toString();
    }

    private static boolean has(Coppertrace board, int pin) {
        try {
            board.netOf(pin);
            return true;
        } catch (IndexOutOfBoundsException e) {
            return false;
        }
    }

}
