/** What the tests share: answers that are compared, exceptions among them, and the count of wrong ones. */
final class Checks {
    interface Call {
        long answer();
    }

    private int wrong;
    private int made;

    /** The answer of a call, or the name of the exception that it throws. */
    static String outcome(Call call) {
        try {
            return Long.toString(call.answer());
        } catch (RuntimeException e) {
            return "throws." + e.getClass().getSimpleName();
        }
    }

    void due(String what, long want, Call call) {
        same(what, Long.toString(want), outcome(call));
    }

    void dueTrue(String what, boolean got) {
        same(what, "true", Boolean.toString(got));
    }

    void dueThrows(String what, Class<? extends RuntimeException> want, Call call) {
        same(what, "throws." + want.getSimpleName(), outcome(call));
    }

    void same(String what, String want, String got) {
        made++;
        if (!want.equals(got)) {
            wrong++;
            if (wrong <= 40) {
                System.out.println(what + " answered " + got + ", due is " + want);
            }
        }
    }

    int wrongOnes() {
        return wrong;
    }

    void end() {
        System.out.println(made + " answers, " + wrong + " wrong");
        if (wrong > 0) {
            System.exit(1);
        }
    }

    static long bit(boolean b) {
        return b ? 1 : 0;
    }
}
