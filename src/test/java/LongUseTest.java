/**
 * "An object is used for at most 512 calls after it has been made": up to the 512th call each answer
 * is the one that is due, whatever the calls ahead of it were. (Counted ends a test that asks more.)
 */
public final class LongUseTest {
    private static final Checks CHECKS = new Checks();
    private static final int P = 32003;
    private static final int X = 1;
    private static final int Y = 16;
    private static final int Z = 256;

    public static void main(String[] args) {
        CHECKS.sentence("What it is: An object is used for at most 512 calls after it has been made");
        questions();
        refusedCalls();
        manyLists();
        manyClears();
        longPolynomial();
        longestTaken();
        twelveLongOnes();
        CHECKS.end();
    }

    private static void atTheLastCall(String name, Counted x, long due, Checks.Call call) {
        CHECKS.same(name + ": one call is left", "1", Integer.toString(x.callsLeft()));
        CHECKS.due(name + ": the 512th call", due, call);
    }

    /** Takes what makes 2, 3, 5 the one zero. */
    private static void takeOneZero(Counted x) {
        x.setAndTake(0, 1, X, -2, 0);
        x.setAndTake(1, 1, Y, -3, 0);
        x.setAndTake(2, 1, Z, -5, 0);
    }

    private static void questions() {
        Counted x = new Counted(3);
        takeOneZero(x);
        while (x.callsLeft() > 8) {
            CHECKS.due("run()", 1, x::run);
        }
        CHECKS.due("total()", 1, x::total);
        CHECKS.due("left(0)", 0, () -> x.left(0));
        CHECKS.due("at(0, 2)", 5, () -> x.at(0, 2));
        CHECKS.due("multiplicity(0)", 1, () -> x.multiplicity(0));
        CHECKS.due("minimal(2, 0)", P - 5, () -> x.minimal(2, 0));
        CHECKS.due("value(1, 0)", 0, () -> x.value(1, 0));
        CHECKS.due("count(1)", 3, () -> x.count(1));
        atTheLastCall("questions", x, 1, x::run);
    }

    private static void refusedCalls() {
        Counted x = new Counted(3);
        takeOneZero(x);
        CHECKS.due("run()", 1, x::run);
        for (int i = 0; x.callsLeft() > 1; i++) {
            int k = i;
            switch (i % 4) {
                case 0 -> CHECKS.dueThrows("at(1, 0)", IndexOutOfBoundsException.class, () -> x.at(1, 0));
                case 1 -> CHECKS.dueThrows("take(40)", IndexOutOfBoundsException.class, () -> x.take(40 + k));
                case 2 -> CHECKS.dueThrows("term(..)", ArithmeticException.class, () -> x.term(0, k, 0, X));
                default -> CHECKS.due("left(1)", -1, () -> x.left(k));
            }
        }
        atTheLastCall("refused calls", x, 3, () -> x.at(0, 1));
    }

    private static void manyLists() {
        Counted x = new Counted(1);
        for (int i = 0; x.callsLeft() > 10; i++) {
            int number = 31000 + 9 * i;
            x.setAndTake(i % 40, 1, X, -number, 0);
            CHECKS.due("run()", 1, x::run);
            CHECKS.due("at(0, 0)", number, () -> x.at(0, 0));
            x.clear();
        }
        while (x.callsLeft() > 5) {
            x.count(0);
        }
        x.setAndTake(39, 1, X, 1, 0);
        CHECKS.due("run()", 1, x::run);
        atTheLastCall("many lists", x, 32002, () -> x.at(0, 0));
    }

    private static void manyClears() {
        Counted x = new Counted(2);
        while (x.callsLeft() > 14) {
            CHECKS.due("poly()", 0, x::poly);
            CHECKS.yes("take(0)", () -> x.take(0));
            x.clear();
        }
        while (x.callsLeft() > 13) {
            x.run();
        }
        for (int i = 0; i < 12; i++) {
            CHECKS.yes("take(7)", () -> x.take(7));
        }
        atTheLastCall("many clears", x, 12, () -> x.count(1));
    }

    /** As many powers in one polynomial as there are calls for; its value is known all the time. */
    private static void longPolynomial() {
        Counted x = new Counted(3);
        takeOneZero(x);
        CHECKS.due("run()", 1, x::run);
        long due = 0;
        for (int i = 0; x.callsLeft() > 1; i++) {
            // 371 and 1000 have no divisor in common, so no power comes twice.
            int power = 371 * i % 1000;
            int[] e = {power % 10, power / 10 % 10, power / 100};
            long number = 1 + 61L * i;
            CHECKS.yes("term(..)", () -> x.term(39, number, 1, e[0] + 16 * e[1] + 256 * e[2]));
            due = (due + number * power(2, e[0]) % P * power(3, e[1]) % P * power(5, e[2])) % P;
        }
        atTheLastCall("a long polynomial", x, due, () -> x.value(39, 0));
    }

    private static long power(long number, int exponent) {
        long product = 1;
        for (int i = 0; i < exponent; i++) {
            product = product * number % P;
        }
        return product;
    }

    /** About the longest polynomial that can be taken, behind three that make one zero. */
    private static void longestTaken() {
        Counted x = new Counted(3);
        takeOneZero(x);
        long sum = 0;
        for (int i = 1; x.callsLeft() > 5; i++) {
            int[] e = {i % 10, i / 10 % 10, i / 100};
            CHECKS.yes("term(..)", () -> x.term(39, 1, 1, e[0] + 16 * e[1] + 256 * e[2]));
            sum = (sum + power(2, e[0]) * power(3, e[1]) % P * power(5, e[2])) % P;
        }
        // Its value at the zero taken off, it is a sum of products of those in the list.
        long number = -sum;
        CHECKS.yes("term(..)", () -> x.term(39, number, 1, 0));
        CHECKS.yes("take(39)", () -> x.take(39));
        CHECKS.due("run()", 1, x::run);
        CHECKS.due("total()", 1, x::total);
        atTheLastCall("the longest taken", x, 0, () -> x.value(39, 0));
    }

    /** Three that make one zero, and nine with some fifty powers each that are 0 there too. */
    private static void twelveLongOnes() {
        Counted x = new Counted(3);
        takeOneZero(x);
        long[] sums = new long[12];
        for (int i = 0; x.callsLeft() > 9 + 2 * 9; i++) {
            int p = 3 + i % 9;
            int power = (371 * (i / 9) + 17 * p) % 999 + 1;
            int[] e = {power % 10, power / 10 % 10, power / 100};
            long number = 1 + 7L * i;
            x.term(p, number, 1, e[0] + 16 * e[1] + 256 * e[2]);
            sums[p] = (sums[p] + number * power(2, e[0]) % P * power(3, e[1]) % P * power(5, e[2])) % P;
        }
        for (int p = 3; p < 12; p++) {
            x.setAndTake(p, -sums[p], 0);
        }
        while (x.callsLeft() > 6) {
            CHECKS.due("count(1)", 12, () -> x.count(1));
        }
        CHECKS.due("run()", 1, x::run);
        CHECKS.due("total()", 1, x::total);
        CHECKS.due("at(0, 0)", 2, () -> x.at(0, 0));
        CHECKS.due("at(0, 1)", 3, () -> x.at(0, 1));
        CHECKS.due("multiplicity(0)", 1, () -> x.multiplicity(0));
        atTheLastCall("twelve long ones", x, 0, () -> x.value(11, 0));
    }
}
