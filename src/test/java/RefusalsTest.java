import java.util.ArrayList;
import java.util.List;

/**
 * "Of several the one that stands first behind "throws" is thrown; nothing changes." Every call that
 * can be refused is made in every kind of state. What it throws is looked at, and then whether the
 * object and a twin, on which that call was never made, answer the same to all that can be asked.
 */
public final class RefusalsTest {
    private static final Checks CHECKS = new Checks();
    private static final int X = 1;
    private static final int Y = 16;
    private static final String NOT_KNOWN = "throws.IllegalStateException";
    private static final String NO_SUCH_INDEX = "throws.IndexOutOfBoundsException";
    private static final String WRONG_ARGUMENT = "throws.IllegalArgumentException";
    private static final String NO_DIVISOR = "throws.ArithmeticException";

    private enum State {
        NEW, SET, NO_BASIS, NOT_FINITE, TOO_MANY, NO_ZERO, KNOWN, FULL, TAKEN_BEHIND_RUN, CLEARED
    }

    private interface Refused {
        long on(Counted x);
    }

    public static void main(String[] args) {
        states();
        for (State state : State.values()) {
            terms(state);
            takes(state);
            if (isKnown(state)) {
                knownQuestions(state);
            } else {
                unknownQuestions(state);
            }
        }
        full();
        CHECKS.end();
    }

    /** That each state is the one that its name says. */
    private static void states() {
        int[] runs = {-2, -2, -1, -2, -3, 0, 4, 4, 4, -2};
        int[] given = {0, 2, 2, 2, 2, 2, 2, 40, 2, 0};
        int[] taken = {0, 0, 3, 1, 2, 2, 2, 12, 3, 0};
        for (State state : State.values()) {
            Counted x = in(state);
            int i = state.ordinal();
            CHECKS.due(state + ": given", given[i], () -> x.count(0));
            CHECKS.due(state + ": taken", taken[i], () -> x.count(1));
            CHECKS.dueTrue(state + ": known", isKnown(state) != Checks.outcome(x::total).equals(NOT_KNOWN));
            CHECKS.due(state + ": run()", runs[i], x::run);
        }
    }

    private static boolean isKnown(State state) {
        return state == State.NO_ZERO || state == State.KNOWN || state == State.FULL;
    }

    private static int zeros(State state) {
        return state == State.NO_ZERO ? 0 : 4;
    }

    /** An object with two letters in that state. */
    private static Counted in(State state) {
        Counted x = new Counted(2);
        if (state == State.NEW) {
            return x;
        }
        x.poly();
        x.poly();
        x.set(0, 1, 2 * X, -1, 0);
        x.set(1, 1, 2 * Y, -4, 0);
        x.set(2, 1, X + Y, 3, 0);
        x.set(3, 1, 9 * X, 1, 9 * Y);
        x.set(4, 1, 2 * X, 1, 0);
        x.set(39, 77, X, 5, 0);
        switch (state) {
            case NO_BASIS -> takeAndRun(x, 0, 1, 2);
            case NOT_FINITE -> takeAndRun(x, 1);
            case TOO_MANY -> {
                x.set(5, 1, 9 * Y);
                takeAndRun(x, 3, 5);
            }
            case NO_ZERO -> takeAndRun(x, 4, 1);
            case KNOWN -> takeAndRun(x, 0, 1);
            case FULL -> {
                for (int p = 2; p < 40; p++) {
                    x.poly();
                }
                x.set(39, 77, X, 5, 0);
                takeAndRun(x, 0, 1, 0, 1, 0, 1, 0, 1, 0, 1, 0, 1);
            }
            case TAKEN_BEHIND_RUN -> {
                takeAndRun(x, 0, 1);
                x.take(38);
            }
            case CLEARED -> {
                takeAndRun(x, 0, 1);
                x.clear();
            }
            default -> { }
        }
        return x;
    }

    private static void takeAndRun(Counted x, int... polynomials) {
        for (int p : polynomials) {
            x.take(p);
        }
        x.run();
    }

    private static void refused(State state, String call, String due, Refused refused) {
        CHECKS.sentence("Terms: Of several the one that stands first behind \"throws\" is thrown");
        Counted x = in(state);
        String name = state + ", " + call;
        CHECKS.same(name, due, Checks.outcome(() -> refused.on(x)));
        CHECKS.same(name + " again", due, Checks.outcome(() -> refused.on(x)));
        CHECKS.sentence("Terms: nothing changes");
        List<String> want = allAnswers(in(state));
        List<String> got = allAnswers(x);
        for (int i = 0; i < want.size(); i++) {
            CHECKS.same(name + ", behind it question " + i, want.get(i), got.get(i));
        }
    }

    /** What can be asked, first without a change, then with changes that show what is held. */
    private static List<String> allAnswers(Counted x) {
        List<String> answers = new ArrayList<>();
        found(x, answers);
        for (int p : new int[] {0, 1, 2, 38, 39}) {
            for (int power : new int[] {0, X, Y, 2 * X, 2 * Y, X + Y, 9 * X + 9 * Y}) {
                for (int number : new int[] {-1, 77, 0}) {
                    answers.add("term " + p + ": " + Checks.outcome(() -> x.term(p, number, 1, power)));
                }
            }
        }
        answers.add("poly: " + Checks.outcome(x::poly));
        answers.add("run: " + Checks.outcome(x::run));
        found(x, answers);
        answers.add("take: " + Checks.outcome(() -> x.take(38)));
        answers.add("run: " + Checks.outcome(x::run));
        found(x, answers);
        return answers;
    }

    private static void found(Counted x, List<String> answers) {
        for (int what = 0; what < 3; what++) {
            int k = what;
            answers.add("count " + k + ": " + Checks.outcome(() -> x.count(k)));
            answers.add("free " + k + ": " + Checks.outcome(() -> x.free(k)));
        }
        answers.add("total: " + Checks.outcome(x::total));
        answers.add("left 3: " + Checks.outcome(() -> x.left(3)));
        for (int letter = 0; letter < 2; letter++) {
            int l = letter;
            for (int e = 0; e < 3; e++) {
                int exponent = e;
                answers.add("minimal " + l + " " + e + ": " + Checks.outcome(() -> x.minimal(l, exponent)));
            }
            for (int zero = 0; zero < 4; zero++) {
                int k = zero;
                answers.add("at " + k + " " + l + ": " + Checks.outcome(() -> x.at(k, l)));
            }
        }
        for (int zero = 0; zero < 4; zero++) {
            int k = zero;
            answers.add("multiplicity " + k + ": " + Checks.outcome(() -> x.multiplicity(k)));
            for (int p : new int[] {0, 1, 2, 38, 39}) {
                answers.add("value " + p + " " + k + ": " + Checks.outcome(() -> x.value(p, k)));
            }
        }
    }

    private static long bit(boolean answer) {
        return answer ? 1 : 0;
    }

    private static void terms(State state) {
        for (int p : new int[] {-1, 40}) {
            refused(state, "no such polynomial", NO_SUCH_INDEX, x -> bit(x.term(p, 7, 1, X)));
            refused(state, "no such polynomial, no such power", NO_SUCH_INDEX, x -> bit(x.term(p, 7, 1, 10)));
            refused(state, "no such polynomial, below 0", NO_SUCH_INDEX, x -> bit(x.term(p, 7, 0, X)));
            refused(state, "no such polynomial, no such power, below 0", NO_SUCH_INDEX,
                    x -> bit(x.term(p, 7, 32003, -1)));
        }
        for (int p : new int[] {0, 39}) {
            for (int power : new int[] {-1, 10, 160, 256}) {
                refused(state, "power " + power, WRONG_ARGUMENT, x -> bit(x.term(p, 7, 1, power)));
                refused(state, "power " + power + ", below 0", WRONG_ARGUMENT,
                        x -> bit(x.term(p, 7, 0, power)));
            }
            for (long below : new long[] {0, 32003, -32003}) {
                refused(state, "below " + below, NO_DIVISOR, x -> bit(x.term(p, 7, below, 0)));
                refused(state, "0 through " + below, NO_DIVISOR, x -> bit(x.term(p, 0, below, X)));
            }
        }
    }

    private static void takes(State state) {
        for (int p : new int[] {Integer.MIN_VALUE, -1, 40, Integer.MAX_VALUE}) {
            refused(state, "take(" + p + ")", NO_SUCH_INDEX, x -> bit(x.take(p)));
        }
    }

    private static void unknownQuestions(State state) {
        refused(state, "total()", NOT_KNOWN, Counted::total);
        for (int k : new int[] {-1, 0, 16}) {
            refused(state, "left(" + k + ")", NOT_KNOWN, x -> x.left(k));
            refused(state, "multiplicity(" + k + ")", NOT_KNOWN, x -> x.multiplicity(k));
            for (int letter : new int[] {-1, 0, 2}) {
                refused(state, "at(" + k + ", " + letter + ")", NOT_KNOWN, x -> x.at(k, letter));
                refused(state, "minimal(" + letter + ", " + k + ")", NOT_KNOWN, x -> x.minimal(letter, k));
            }
            for (int p : new int[] {-1, 0, 40}) {
                refused(state, "value(" + p + ", " + k + ")", NOT_KNOWN, x -> x.value(p, k));
            }
        }
    }

    private static void knownQuestions(State state) {
        for (int zero : new int[] {-1, zeros(state), 16}) {
            refused(state, "multiplicity(" + zero + ")", NO_SUCH_INDEX, x -> x.multiplicity(zero));
            for (int letter : new int[] {-1, 0, 2}) {
                refused(state, "at(" + zero + ", " + letter + ")", NO_SUCH_INDEX, x -> x.at(zero, letter));
            }
            for (int p : new int[] {-1, 0, 40}) {
                refused(state, "value(" + p + ", " + zero + ")", NO_SUCH_INDEX, x -> x.value(p, zero));
            }
        }
        for (int letter : new int[] {-1, 2}) {
            for (int exponent : new int[] {-1, 0, 17}) {
                refused(state, "minimal(" + letter + ", " + exponent + ")", WRONG_ARGUMENT,
                        x -> x.minimal(letter, exponent));
            }
            if (zeros(state) > 0) {
                refused(state, "at(0, " + letter + ")", WRONG_ARGUMENT, x -> x.at(0, letter));
                refused(state, "value(40, 0)", NO_SUCH_INDEX, x -> x.value(40, 0));
            }
        }
    }

    /** What only an object is refused of which 40 were given and 12 are taken. */
    private static void full() {
        refused(State.FULL, "poly() when 40 were given", NOT_KNOWN, Counted::poly);
        for (int p : new int[] {0, 1, 2, 38, 39}) {
            refused(State.FULL, "take(" + p + ") when 12 are", "0", x -> bit(x.take(p)));
        }
    }
}
