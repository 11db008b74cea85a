/** Counts the answers that are as due and those that are not. */
final class Check {
    interface Call {
        Object now();
    }

    private final String name;
    private int passed;
    private int failed;

    Check(String name) {
        this.name = name;
    }

    void same(String what, Object got, Object due) {
        if (got.equals(due)) {
            passed++;
        } else {
            failed++;
            System.out.println(name + ": " + what + " answered " + got + ", due is " + due);
        }
    }

    /** The call must throw just this class; RefusedTest tells whether such a call changes nothing. */
    void thrown(String what, Class<? extends RuntimeException> due, Call call) {
        same(what, outcome(call), due.getName());
    }

    private static String outcome(Call call) {
        try {
            return "the answer " + call.now();
        } catch (RuntimeException e) {
            return e.getClass().getName();
        }
    }

    int end() {
        System.out.println(name + ": " + passed + " passed, " + failed + " failed");
        return failed > 0 ? 1 : 0;
    }
}
