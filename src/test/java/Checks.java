import java.util.Set;
import java.util.TreeSet;

/** What the tests share: answers that are compared, exceptions among them, and the count of wrong ones. */
final class Checks {
    interface Call {
        long answer();
    }

    interface YesOrNo {
        boolean answer();
    }

    private String sentence = "";
    private final Set<String> sentences = new TreeSet<>();
    private int wrong;
    private int made;

    /** The sentence of the document that the answers from here on are due by. */
    void sentence(String text) {
        sentence = "[" + text + "] ";
        sentences.add(text);
    }

    /** The answer of a call, or the name of the exception that it throws. */
    static String outcome(Call call) {
        try {
            return Long.toString(call.answer());
        } catch (RuntimeException e) {
            return "throws." + e.getClass().getSimpleName();
        }
    }

    static String outcome(YesOrNo call) {
        return outcome(() -> bit(call.answer()));
    }

    void due(String what, long want, Call call) {
        same(what, Long.toString(want), outcome(call));
    }

    void yes(String what, YesOrNo call) {
        same(what, "1", outcome(call));
    }

    void no(String what, YesOrNo call) {
        same(what, "0", outcome(call));
    }

    void dueTrue(String what, boolean got) {
        same(what, "true", Boolean.toString(got));
    }

    void dueThrows(String what, Class<? extends RuntimeException> want, Call call) {
        same(what, "throws." + want.getSimpleName(), outcome(call));
    }

    void dueThrows(String what, Class<? extends RuntimeException> want, YesOrNo call) {
        same(what, "throws." + want.getSimpleName(), outcome(call));
    }

    void same(String what, String want, String got) {
        made++;
        if (!want.equals(got)) {
            wrong++;
            if (wrong <= 40) {
                System.out.println(sentence + what + " answered " + got + ", due is " + want);
            }
        }
    }

    void end() {
        String by = sentences.isEmpty() ? "" : " to " + sentences.size() + " sentences";
        System.out.println(made + " answers" + by + ", " + wrong + " wrong");
        if (wrong > 0) {
            System.exit(1);
        }
    }

    private static long bit(boolean b) {
        return b ? 1 : 0;
    }

    /** What asks for zeros throws IllegalStateException, whatever else is wrong in the call. */
    void zerosAreUnknown(String when, Counted x) {
        Class<? extends RuntimeException> unknown = IllegalStateException.class;
        dueThrows("total() " + when, unknown, () -> x.total());
        for (int i : new int[] {-1, 0, 99}) {
            dueThrows("left(" + i + ") " + when, unknown, () -> x.left(i));
            dueThrows("multiplicity(" + i + ") " + when, unknown, () -> x.multiplicity(i));
            dueThrows("minimal(" + i + ", " + i + ") " + when, unknown, () -> x.minimal(i, i));
            dueThrows("at(" + i + ", 0) " + when, unknown, () -> x.at(i, 0));
            dueThrows("at(0, " + i + ") " + when, unknown, () -> x.at(0, i));
            dueThrows("at(" + i + ", " + i + ") " + when, unknown, () -> x.at(i, i));
            dueThrows("value(" + i + ", 0) " + when, unknown, () -> x.value(i, 0));
            dueThrows("value(0, " + i + ") " + when, unknown, () -> x.value(0, i));
            dueThrows("value(" + i + ", " + i + ") " + when, unknown, () -> x.value(i, i));
        }
    }
}
