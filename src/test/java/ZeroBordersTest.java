/**
 * The borders that the document names for what run() finds: promises 5 to 12 and the sentences under
 * "Terms" that belong to them. One method for each sentence: the value at the border, the one below
 * it and the one above it.
 */
public final class ZeroBordersTest {
    private static final Checks CHECKS = new Checks();
    private static final int MIN = Integer.MIN_VALUE;
    private static final int MAX = Integer.MAX_VALUE;
    private static final int P = 32003;
    private static final int X = 1;
    private static final int Y = 16;
    private static final int Z = 256;

    public static void main(String[] args) {
        powersAbove();
        powersDivided();
        zerosAreKnown();
        noZeroIsKnownToo();
        mostZeros();
        notABasis();
        notABasisComesFirst();
        commonLetter();
        exponentsOfAnySize();
        notFinite();
        notFiniteComesSecond();
        oneIsAHead();
        emptyList();
        sixteenAreLeft();
        runAgain();
        totals();
        totalIsUnknown();
        leftPowers();
        leftOrder();
        leftIsUnknown();
        atZeros();
        atLetters();
        zerosInOrder();
        atIsUnknown();
        multiplicities();
        multiplicityExceptions();
        sixteenFactors();
        exponentsOfLeast();
        leastOfOne();
        lettersOfLeast();
        valueAsItIsNow();
        valueExceptions();
        freeLetters();
        freeWithOneAsHead();
        freeAsItWas();
        freeAheadOfRun();
        CHECKS.end();
    }

    /** Sets a polynomial to the product of a letter less each number, and takes it. */
    private static void takeProduct(Counted x, int p, int letter, long... numbers) {
        long[] product = new long[numbers.length + 1];
        product[0] = 1;
        for (int i = 0; i < numbers.length; i++) {
            for (int e = i + 1; e >= 0; e--) {
                long above = e > 0 ? product[e - 1] : 0;
                product[e] = Math.floorMod(above - numbers[i] * product[e], (long) P);
            }
        }
        for (int e = 0; e <= numbers.length; e++) {
            x.set(p, product[e], e * letter);
        }
        x.setAndTake(p);
    }

    /** An object whose list are these powers alone; its one zero, if any is known, is 0 everywhere. */
    private static Counted ofPowers(int n, int... powers) {
        Counted x = new Counted(n);
        for (int i = 0; i < powers.length; i++) {
            x.setAndTake(i, 1, powers[i]);
        }
        return x;
    }

    /** Two letters with four zeros, in order: 0 and 5, 0 and 32002, 32002 and 5, 32002 and 32002. */
    private static Counted withFourZeros() {
        Counted x = new Counted(2);
        takeProduct(x, 0, X, 0, 32002);
        takeProduct(x, 1, Y, 5, 32002);
        CHECKS.due("run() of four zeros", 4, x::run);
        return x;
    }

    private static void noSuchZero(String name, Counted x, int zero) {
        CHECKS.dueThrows(name + ": at(" + zero + ", 0)", IndexOutOfBoundsException.class, () -> x.at(zero, 0));
        CHECKS.dueThrows(name + ": at(" + zero + ", 3)", IndexOutOfBoundsException.class, () -> x.at(zero, 3));
        CHECKS.dueThrows(name + ": multiplicity(" + zero + ")", IndexOutOfBoundsException.class,
                () -> x.multiplicity(zero));
        CHECKS.dueThrows(name + ": value(0, " + zero + ")", IndexOutOfBoundsException.class,
                () -> x.value(0, zero));
    }

    /** Whether a power is above another one, read from the document's words. */
    private static boolean isAbove(int power, int other) {
        int[] e = {power % 16, power / 16 % 16, power / 256};
        int[] f = {other % 16, other / 16 % 16, other / 256};
        int more = e[0] + e[1] + e[2] - f[0] - f[1] - f[2];
        for (int letter = 0; letter < 3 && more == 0; letter++) {
            more = e[letter] - f[letter];
        }
        return more > 0;
    }

    private static void powersAbove() {
        CHECKS.sentence("Terms: ABOVE if its degree is greater, or the same and at the first letter where they"
                + " differ it has more; the HEAD is its power that is above all others");
        int[] exponents = {0, 1, 2, 9};
        for (int i = 0; i < 64; i++) {
            for (int j = 0; j < 64; j++) {
                int power = exponents[i % 4] * X + exponents[i / 4 % 4] * Y + exponents[i / 16] * Z;
                int other = exponents[j % 4] * X + exponents[j / 4 % 4] * Y + exponents[j / 16] * Z;
                if (i == j) {
                    continue;
                }
                // The sum of both less the one is the other: that stays just if the one is the sum's head.
                Counted x = new Counted(3);
                x.setAndTake(0, 1, power, 1, other);
                x.setAndTake(1, 1, power);
                CHECKS.dueTrue("run() of " + power + " + " + other + " and " + power,
                        (x.run() == -1) == isAbove(power, other));
            }
        }
    }

    private static void powersDivided() {
        CHECKS.sentence("Terms: it DIVIDES another one if none of its exponents is greater");
        Counted x = ofPowers(2, 4 * X, 4 * Y, 2 * X + Y);
        CHECKS.due("run()", 1, x::run);
        // With the exponents of xxy, or with one that is greater, a power isn't left.
        int[] due = {0, Y, X, 2 * Y, X + Y, 2 * X, 3 * Y, X + 2 * Y, 3 * X, X + 3 * Y};
        CHECKS.due("total()", due.length, x::total);
        for (int i = 0; i <= due.length; i++) {
            int k = i;
            CHECKS.due("left(" + k + ")", k < due.length ? due[k] : -1, () -> x.left(k));
        }
        Counted y = ofPowers(3, 2 * X, 2 * Y, 2 * Z, X + Y + Z);
        CHECKS.due("run()", 1, y::run);
        CHECKS.due("total() of 2 by 2 by 2 without the last", 7, y::total);
        CHECKS.due("left(6)", X + Y, () -> y.left(6));
    }

    private static void zerosAreKnown() {
        CHECKS.sentence("5: How many ZEROS there are: they are known then");
        Counted x = new Counted(1);
        takeProduct(x, 0, X, 7);
        CHECKS.zerosAreUnknown("ahead of run()", x);
        CHECKS.due("run() of one zero", 1, x::run);
        CHECKS.due("total()", 1, x::total);
        CHECKS.due("left(0)", 0, () -> x.left(0));
        CHECKS.due("at(0, 0)", 7, () -> x.at(0, 0));
        CHECKS.due("multiplicity(0)", 1, () -> x.multiplicity(0));
        CHECKS.due("minimal(0, 0)", P - 7, () -> x.minimal(0, 0));
        CHECKS.due("value(0, 0)", 0, () -> x.value(0, 0));
        noSuchZero("one zero", x, 1);
        noSuchZero("one zero", x, -1);
    }

    private static void noZeroIsKnownToo() {
        CHECKS.sentence("5: How many ZEROS there are (0): they are known then");
        Counted x = new Counted(1);
        // -1 is no square modulo 32003.
        x.setAndTake(0, 1, 2 * X, 1, 0);
        CHECKS.due("run() of xx + 1", 0, x::run);
        CHECKS.due("total()", 2, x::total);
        CHECKS.due("left(1)", X, () -> x.left(1));
        CHECKS.due("minimal(0, 0)", 1, () -> x.minimal(0, 0));
        CHECKS.due("minimal(0, 2)", 1, () -> x.minimal(0, 2));
        CHECKS.due("free(0)", -1, () -> x.free(0));
        noSuchZero("no zero", x, 0);
        noSuchZero("no zero", x, -1);
        noSuchZero("no zero", x, 1);
    }

    private static void mostZeros() {
        CHECKS.sentence("5: How many ZEROS there are (as many as powers are LEFT, at most 16)");
        Counted x = new Counted(1);
        takeProduct(x, 0, X, 1, 2, 3, 4, 5, 6, 7, 8, 32002);
        CHECKS.due("run() of nine zeros", 9, x::run);
        CHECKS.due("at(8, 0)", 32002, () -> x.at(8, 0));
        noSuchZero("nine zeros", x, 9);
        Counted y = new Counted(2);
        takeProduct(y, 0, X, 1, 2, 3, 4);
        takeProduct(y, 1, Y, 10, 20, 30, 40);
        CHECKS.due("run() of sixteen zeros", 16, y::run);
        CHECKS.due("total()", 16, y::total);
        for (int zero = 0; zero < 16; zero++) {
            int k = zero;
            CHECKS.due("at(" + k + ", 0)", 1 + k / 4, () -> y.at(k, 0));
            CHECKS.due("at(" + k + ", 1)", 10 + 10 * (k % 4), () -> y.at(k, 1));
            CHECKS.due("multiplicity(" + k + ")", 1, () -> y.multiplicity(k));
        }
        noSuchZero("sixteen zeros", y, 16);
        Counted z = new Counted(3);
        takeProduct(z, 0, X, 1, 2);
        takeProduct(z, 1, Y, 3, 4, 5, 6);
        takeProduct(z, 2, Z, 0, 9);
        CHECKS.due("run() of sixteen zeros with three letters", 16, z::run);
        CHECKS.due("at(15, 0)", 2, () -> z.at(15, 0));
        CHECKS.due("at(15, 1)", 6, () -> z.at(15, 1));
        CHECKS.due("at(15, 2)", 9, () -> z.at(15, 2));
        noSuchZero("sixteen zeros", z, 16);
    }

    private static void notABasis() {
        CHECKS.sentence("5: -1, the LIST isn't a BASIS");
        Counted x = new Counted(2);
        x.setAndTake(0, 1, 2 * X, -1, 0);
        x.setAndTake(1, 1, 2 * Y, -1, 0);
        CHECKS.due("run() of a basis", 4, x::run);
        x.setAndTake(2, 1, X + Y, -1, 0);
        // y(xx - 1) - x(xy - 1) is x - y, and that stays.
        CHECKS.due("run() with xy - 1", -1, x::run);
        CHECKS.zerosAreUnknown("behind -1", x);
        x.setAndTake(3, 1, X, -1, Y);
        CHECKS.due("run() with x - y too", 2, x::run);
        CHECKS.due("total()", 2, x::total);
        Counted y = new Counted(1);
        y.setAndTake(0, 1, X, -1, 0);
        y.setAndTake(1, 1, X, -2, 0);
        CHECKS.due("run() of two with the same head", -1, y::run);
        Counted z = new Counted(1);
        z.setAndTake(0, 1, X, -1, 0);
        z.setAndTake(1, 2, X, -2, 0);
        CHECKS.due("run() of two that differ by a factor", 1, z::run);
    }

    private static void notABasisComesFirst() {
        CHECKS.sentence("5: -1; -2; -3 (the first of these): -1 ahead of the others");
        Counted x = new Counted(2);
        x.setAndTake(0, 1, 2 * X, 1, 0);
        x.setAndTake(1, 1, X + Y, 1, 0);
        CHECKS.due("run() of no basis, not finite", -1, x::run);
        CHECKS.due("free(0)", 1, () -> x.free(0));
        Counted y = new Counted(2);
        y.setAndTake(0, 1, 9 * X);
        y.setAndTake(1, 1, 9 * Y);
        CHECKS.due("run() of a basis with 81 left", -3, y::run);
        y.setAndTake(2, 1, 8 * X + 8 * Y, -1, 0);
        CHECKS.due("run() of no basis with 80 left", -1, y::run);
        CHECKS.zerosAreUnknown("behind -1", y);
    }

    private static void commonLetter() {
        CHECKS.sentence("Terms: a BASIS if for any two in it whose heads have a letter in common this is 0");
        Counted x = new Counted(3);
        x.setAndTake(0, 1, 2 * X, -1, Y);
        x.setAndTake(1, 1, 2 * Y, -1, Z);
        x.setAndTake(2, 1, 2 * Z, -1, X);
        CHECKS.due("run() of three without a letter in common", 2, x::run);
        CHECKS.due("total()", 8, x::total);
        // Of twelve in the list one pair alone isn't reduced to 0, wherever its two stand.
        for (int first = 0; first < 12; first++) {
            for (int second = first + 1; second < 12; second++) {
                Counted y = new Counted(3);
                y.set(0, 1, 2 * X, 1, 0);
                y.set(1, 1, X + Y, 1, 0);
                y.set(2, 1, Z, 1, 0);
                for (int i = 0; i < 12; i++) {
                    y.take(i == first ? 0 : i == second ? 1 : 2);
                }
                CHECKS.due("run(), the pair at " + first + " and " + second, -1, y::run);
            }
        }
        Counted one = new Counted(2);
        one.setAndTake(0, 3, 0);
        CHECKS.due("run() of one in the list", 0, one::run);
        one.setAndTake(1, 4, 0);
        CHECKS.due("run() of two numbers, no letter in common", 0, one::run);
    }

    private static void exponentsOfAnySize() {
        CHECKS.sentence("Terms: in what comes on the way, with exponents of any size");
        Counted x = new Counted(2);
        x.setAndTake(0, 1, 9 * X, -1, 9 * Y);
        x.setAndTake(1, 1, 8 * X + 2 * Y);
        CHECKS.due("run(): the 11th power of y stays", -1, x::run);
        x.setAndTake(2, 1, 9 * Y);
        CHECKS.due("run(): the 11th power of y goes", -3, x::run);
        Counted y = new Counted(2);
        y.setAndTake(0, 1, 9 * X, -1, 9 * Y);
        y.setAndTake(1, 1, 9 * X + 9 * Y, -1, 0);
        CHECKS.due("run(): the 18th power of y less 1 stays", -1, y::run);
        y.setAndTake(2, 1, 9 * Y, -1, 0);
        CHECKS.due("run(): the 18th power of y less 1 goes", -3, y::run);
        y.setAndTake(3, 1, X, -1, 0);
        y.setAndTake(4, 1, Y, -1, 0);
        CHECKS.due("run() with x - 1 and y - 1 too", 1, y::run);
        Counted z = new Counted(3);
        z.setAndTake(0, 1, 9 * X, -1, 9 * Y);
        z.setAndTake(1, 1, 9 * X + 9 * Y + 9 * Z, -1, 9 * Z);
        CHECKS.due("run(): the 18th power of y times the 9th of z stays", -1, z::run);
        z.setAndTake(2, 1, 9 * Y, -1, 0);
        CHECKS.due("run(): it goes, and z is free", -2, z::run);
        z.setAndTake(3, 1, X, -1, 0);
        z.setAndTake(4, 1, Y, -1, 0);
        z.setAndTake(5, 1, Z, -2, 0);
        CHECKS.due("run() with each letter's number too", 1, z::run);
        CHECKS.due("at(0, 2)", 2, () -> z.at(0, 2));
    }

    private static void notFinite() {
        CHECKS.sentence("5: -2, it isn't FINITE; Terms: for each letter a head in which no other letter is");
        CHECKS.due("one letter, nothing", -2, () -> new Counted(1).run());
        CHECKS.due("two letters, xx", -2, () -> ofPowers(2, 2 * X).run());
        CHECKS.due("two letters, yy", -2, () -> ofPowers(2, 2 * Y).run());
        CHECKS.due("two letters, xx, xy", -2, () -> ofPowers(2, 2 * X, X + Y).run());
        CHECKS.due("two letters, xy, yy", -2, () -> ofPowers(2, X + Y, 2 * Y).run());
        CHECKS.due("two letters, xx, yy", 1, () -> ofPowers(2, 2 * X, 2 * Y).run());
        CHECKS.due("three letters, x, y", -2, () -> ofPowers(3, X, Y).run());
        CHECKS.due("three letters, x, z", -2, () -> ofPowers(3, X, Z).run());
        CHECKS.due("three letters, y, z", -2, () -> ofPowers(3, Y, Z).run());
        CHECKS.due("three letters, x, y, z", 1, () -> ofPowers(3, X, Y, Z).run());
        CHECKS.due("three letters, x, y, yz, xz", -2, () -> ofPowers(3, X, Y, Y + Z, X + Z).run());
        CHECKS.due("the ninth powers alone", -3, () -> ofPowers(3, 9 * X, 9 * Y, 9 * Z).run());
        Counted x = new Counted(2);
        // The power of y alone isn't the head.
        x.setAndTake(0, 1, 2 * X, 1, 2 * Y);
        CHECKS.due("two letters, xx + yy", -2, x::run);
        CHECKS.due("free(0)", 1, () -> x.free(0));
        CHECKS.zerosAreUnknown("behind -2", x);
    }

    private static void notFiniteComesSecond() {
        CHECKS.sentence("5: -1; -2; -3 (the first of these): -2 ahead of -3");
        CHECKS.due("the ninth power of x alone", -2, () -> ofPowers(2, 9 * X).run());
        CHECKS.due("the ninth powers of x and y", -2, () -> ofPowers(3, 9 * X, 9 * Y).run());
        CHECKS.due("all of them", -3, () -> ofPowers(3, 9 * X, 9 * Y, 9 * Z).run());
    }

    private static void oneIsAHead() {
        CHECKS.sentence("Terms: FINITE (or 1 is a head)");
        for (int n = 1; n <= 3; n++) {
            for (long number : new long[] {1, 5, 32002}) {
                Counted x = new Counted(n);
                x.setAndTake(0, number, 0);
                CHECKS.due("run() of the number " + number, 0, x::run);
                CHECKS.due("total()", 0, x::total);
                CHECKS.due("left(0)", -1, () -> x.left(0));
                noSuchZero("1 is a head", x, 0);
            }
        }
        Counted y = new Counted(3);
        y.setAndTake(0, 1, 2 * X, 1, 0);
        y.setAndTake(1, 1, X + Y, 1, 0);
        CHECKS.due("run() of no basis", -1, y::run);
        y.setAndTake(2, 9, 0);
        CHECKS.due("run() of it with 9", 0, y::run);
        CHECKS.due("total()", 0, y::total);
        Counted z = new Counted(2);
        z.setAndTake(0, 9, 0);
        z.setAndTake(1, 1, 9 * X + 9 * Y, 5, 9 * Y);
        CHECKS.due("run() of 9 first", 0, z::run);
        CHECKS.due("total()", 0, z::total);
        Counted none = new Counted(2);
        none.setAndTake(0, 1, X, 9, 0);
        CHECKS.due("run(): a number that is no head", -2, none::run);
    }

    private static void emptyList() {
        CHECKS.sentence("5: run() of an empty LIST");
        for (int n = 1; n <= 3; n++) {
            Counted x = new Counted(n);
            CHECKS.due("run() of nothing taken", -2, x::run);
            CHECKS.zerosAreUnknown("behind it", x);
            x.take(0);
            CHECKS.due("run() of 0", -2, x::run);
            x.clear();
            CHECKS.due("run() behind clear()", -2, x::run);
        }
    }

    private static void sixteenAreLeft() {
        CHECKS.sentence("5: -3, more than 16 powers are LEFT");
        for (int j = 1; j <= 9; j++) {
            int left = 9 + j;
            Counted x = ofPowers(2, 2 * X, 9 * Y, X + j * Y);
            CHECKS.due("run() with " + left + " left", left > 16 ? -3 : 1, x::run);
            Counted y = ofPowers(3, X, 9 * Z, 2 * Y, Y + j * Z);
            CHECKS.due("run() with " + left + " left, three letters", left > 16 ? -3 : 1, y::run);
            if (left <= 16) {
                CHECKS.due("total()", left, x::total);
                CHECKS.due("total()", left, y::total);
                CHECKS.due("multiplicity(0)", left, () -> x.multiplicity(0));
                CHECKS.due("multiplicity(0)", left, () -> y.multiplicity(0));
            } else {
                CHECKS.zerosAreUnknown("with " + left + " left", x);
                CHECKS.zerosAreUnknown("with " + left + " left", y);
            }
        }
        CHECKS.due("run() with 9 left, one letter", 1, () -> ofPowers(1, 9 * X).run());
        CHECKS.due("run() with 4 by 4 left", 1, () -> ofPowers(2, 4 * X, 4 * Y).run());
        CHECKS.due("run() with 2 by 9 left", -3, () -> ofPowers(2, 2 * X, 9 * Y).run());
        CHECKS.due("run() with 3 by 3 by 2 left", -3, () -> ofPowers(3, 3 * X, 3 * Y, 2 * Z).run());
        CHECKS.due("run() with one less, 17", -3,
                () -> ofPowers(3, 3 * X, 3 * Y, 2 * Z, 2 * X + 2 * Y + Z).run());
        CHECKS.due("run() with two less, 16", 1, () -> ofPowers(3, 3 * X, 3 * Y, 2 * Z, 2 * X + 2 * Y).run());
        Counted z = ofPowers(2, 2 * X, 9 * Y, X + 8 * Y);
        CHECKS.due("run() with 17 left", -3, z::run);
        z.setAndTake(5, 1, X + 7 * Y);
        CHECKS.due("run() with 16 left, behind one more taken", 1, z::run);
    }

    private static void runAgain() {
        CHECKS.sentence("5: run() asked again answers the same");
        Counted[] objects = {ofPowers(2, 2 * X), ofPowers(2, 5 * X, 4 * Y), ofPowers(2, 5 * X, 3 * Y),
            withFourZeros()};
        int[] due = {-2, -3, 1, 4};
        for (int i = 0; i < objects.length; i++) {
            Counted x = objects[i];
            int want = due[i];
            for (int again = 0; again < 3; again++) {
                CHECKS.due("run()", want, x::run);
                if (want < 0) {
                    CHECKS.zerosAreUnknown("behind run() again", x);
                } else {
                    noSuchZero("behind run() again", x, want);
                    CHECKS.due("a zero behind run() again", want == 4 ? 32002 : 0, () -> x.at(want - 1, 1));
                }
                // A polynomial that changes isn't taken by that.
                x.set(0, again, 0, 1, 8 * X + 8 * Y);
            }
        }
    }

    private static void totals() {
        CHECKS.sentence("6: How many powers are LEFT");
        for (int e = 1; e <= 9; e++) {
            int exponent = e;
            Counted x = ofPowers(1, e * X);
            CHECKS.due("run()", 1, x::run);
            CHECKS.due("total() of one letter to " + e, exponent, x::total);
            Counted y = ofPowers(3, X, e * Z, Y);
            CHECKS.due("run()", 1, y::run);
            CHECKS.due("total() of three letters", exponent, y::total);
        }
        Counted none = ofPowers(2, 3 * X, 3 * Y, 0);
        CHECKS.due("run() with 1 in the list", 0, none::run);
        CHECKS.due("total()", 0, none::total);
    }

    private static void totalIsUnknown() {
        CHECKS.sentence("6: IllegalStateException: ZEROS aren't known");
        Counted x = new Counted(2);
        CHECKS.dueThrows("total() of a new object", IllegalStateException.class, x::total);
        x.setAndTake(0, 1, 2 * X);
        CHECKS.dueThrows("total() ahead of run()", IllegalStateException.class, x::total);
        CHECKS.due("run()", -2, x::run);
        CHECKS.dueThrows("total() behind -2", IllegalStateException.class, x::total);
        x.setAndTake(1, 1, 9 * Y);
        CHECKS.due("run()", -3, x::run);
        CHECKS.dueThrows("total() behind -3", IllegalStateException.class, x::total);
        x.setAndTake(2, 1, 2 * Y);
        CHECKS.due("run()", 1, x::run);
        CHECKS.due("total() of 2 by 2", 4, x::total);
        CHECKS.dueThrows("take(40)", IndexOutOfBoundsException.class, () -> x.take(40));
        CHECKS.due("total() behind a refused call", 4, x::total);
        x.take(39);
        CHECKS.dueThrows("total() behind take()", IllegalStateException.class, x::total);
        CHECKS.due("run()", 1, x::run);
        x.setAndTake(3, 1, X + Y, 1, 0);
        CHECKS.due("run()", -1, x::run);
        CHECKS.dueThrows("total() behind -1", IllegalStateException.class, x::total);
        x.clear();
        CHECKS.dueThrows("total() behind clear()", IllegalStateException.class, x::total);
    }

    private static void leftPowers() {
        CHECKS.sentence("7: The k-th power LEFT; -1 if there is none such");
        for (int total = 1; total <= 9; total++) {
            Counted x = ofPowers(2, X, total * Y);
            CHECKS.due("run()", 1, x::run);
            for (int i = 0; i <= 17; i++) {
                int k = i;
                CHECKS.due("left(" + k + ") of " + total, k < total ? k * Y : -1, () -> x.left(k));
            }
            for (int k : new int[] {MIN, MIN + 1, -256, -2, -1, 255, 256, MAX}) {
                CHECKS.due("left(" + k + ") of " + total, -1, () -> x.left(k));
            }
        }
        Counted none = ofPowers(2, 0);
        CHECKS.due("run() of 1", 0, none::run);
        for (int k : new int[] {-1, 0, 1, 15, 16}) {
            CHECKS.due("left(" + k + ") of none", -1, () -> none.left(k));
        }
    }

    private static void leftOrder() {
        CHECKS.sentence("7: the one that is above none first");
        int[][] powers = {{9 * X}, {4 * X, 4 * Y}, {2 * X, 2 * Y, 4 * Z}};
        int[][] due = {
            {0, X, 2 * X, 3 * X, 4 * X, 5 * X, 6 * X, 7 * X, 8 * X},
            {0, Y, X, 2 * Y, X + Y, 2 * X, 3 * Y, X + 2 * Y, 2 * X + Y, 3 * X, X + 3 * Y, 2 * X + 2 * Y,
                3 * X + Y, 2 * X + 3 * Y, 3 * X + 2 * Y, 3 * X + 3 * Y},
            {0, Z, Y, X, 2 * Z, Y + Z, X + Z, X + Y, 3 * Z, Y + 2 * Z, X + 2 * Z, X + Y + Z, Y + 3 * Z,
                X + 3 * Z, X + Y + 2 * Z, X + Y + 3 * Z}};
        for (int n = 1; n <= 3; n++) {
            Counted x = ofPowers(n, powers[n - 1]);
            CHECKS.due("run()", 1, x::run);
            int[] order = due[n - 1];
            for (int i = 0; i < order.length; i++) {
                int k = i;
                CHECKS.due(n + " letters, left(" + k + ")", order[k], () -> x.left(k));
            }
            CHECKS.due("left behind the last", -1, () -> x.left(order.length));
        }
    }

    private static void leftIsUnknown() {
        CHECKS.sentence("7: IllegalStateException: likewise");
        Counted x = ofPowers(2, 2 * X);
        for (int round = 0; round < 2; round++) {
            for (int k : new int[] {MIN, -1, 0, 1, 15, 16, 17, MAX}) {
                CHECKS.dueThrows("left(" + k + ")", IllegalStateException.class, () -> x.left(k));
            }
            x.run();
        }
        x.setAndTake(1, 1, Y);
        CHECKS.due("run()", 1, x::run);
        CHECKS.due("left(-1) when zeros are known", -1, () -> x.left(-1));
        CHECKS.due("left(2) when zeros are known", -1, () -> x.left(2));
    }

    private static void atZeros() {
        CHECKS.sentence("8: The number of a ZERO at a letter; IndexOutOfBoundsException: no such zero");
        Counted x = withFourZeros();
        int[][] due = {{0, 5}, {0, 32002}, {32002, 5}, {32002, 32002}};
        for (int zero = 0; zero < 4; zero++) {
            for (int letter = 0; letter < 2; letter++) {
                int z = zero;
                int l = letter;
                CHECKS.due("at(" + z + ", " + l + ")", due[z][l], () -> x.at(z, l));
            }
        }
        for (int zero : new int[] {MIN, MIN + 3, -256, -2, -1, 4, 5, 15, 16, 256, MAX}) {
            for (int letter : new int[] {0, 1, -1, 2, MIN, MAX}) {
                CHECKS.dueThrows("at(" + zero + ", " + letter + ")", IndexOutOfBoundsException.class,
                        () -> x.at(zero, letter));
            }
        }
        CHECKS.due("at(3, 1) behind these", 32002, () -> x.at(3, 1));
    }

    private static void atLetters() {
        CHECKS.sentence("8: IllegalArgumentException: no such letter");
        Counted x = withFourZeros();
        for (int zero = 0; zero < 4; zero++) {
            for (int letter : new int[] {MIN, MIN + 1, -256, -2, -1, 2, 3, 4, 15, 16, 256, MAX}) {
                int z = zero;
                CHECKS.dueThrows("at(" + z + ", " + letter + ")", IllegalArgumentException.class,
                        () -> x.at(z, letter));
            }
        }
        CHECKS.due("at(3, 0) behind these", 32002, () -> x.at(3, 0));
    }

    private static void zerosInOrder() {
        CHECKS.sentence("Terms: ZEROS come in order: by the number of letter 0, then of letter 1, of letter 2");
        Counted x = new Counted(3);
        takeProduct(x, 0, X, 32002, 0);
        takeProduct(x, 1, Y, 16002, 16001);
        takeProduct(x, 2, Z, 32002, 1, 0);
        CHECKS.due("run()", 12, x::run);
        int zero = 0;
        for (int first : new int[] {0, 32002}) {
            for (int second : new int[] {16001, 16002}) {
                for (int third : new int[] {0, 1, 32002}) {
                    int k = zero;
                    CHECKS.due("at(" + k + ", 0)", first, () -> x.at(k, 0));
                    CHECKS.due("at(" + k + ", 1)", second, () -> x.at(k, 1));
                    CHECKS.due("at(" + k + ", 2)", third, () -> x.at(k, 2));
                    zero++;
                }
            }
        }
    }

    private static void atIsUnknown() {
        CHECKS.sentence("8: IllegalStateException: likewise (ahead of that there is no such zero)");
        Counted x = ofPowers(2, 2 * X);
        for (int round = 0; round < 2; round++) {
            for (int zero : new int[] {MIN, -1, 0, 1, 16, MAX}) {
                for (int letter : new int[] {-1, 0, 1, 2}) {
                    CHECKS.dueThrows("at(" + zero + ", " + letter + ")", IllegalStateException.class,
                            () -> x.at(zero, letter));
                }
            }
            x.run();
        }
        x.setAndTake(1, 1, Y);
        CHECKS.due("run()", 1, x::run);
        CHECKS.due("at(0, 0)", 0, () -> x.at(0, 0));
        CHECKS.dueThrows("at(1, 0)", IndexOutOfBoundsException.class, () -> x.at(1, 0));
        CHECKS.dueThrows("at(0, 2)", IllegalArgumentException.class, () -> x.at(0, 2));
        CHECKS.dueThrows("at(1, 2)", IndexOutOfBoundsException.class, () -> x.at(1, 2));
    }

    private static void multiplicities() {
        CHECKS.sentence("9: How often a ZERO COUNTS");
        for (int e = 1; e <= 9; e++) {
            Counted x = new Counted(1);
            long[] numbers = new long[9];
            for (int i = 0; i < 9; i++) {
                numbers[i] = i < e ? 32002 : 4;
            }
            takeProduct(x, 0, X, numbers);
            int zeros = e < 9 ? 2 : 1;
            CHECKS.due("run()", zeros, x::run);
            if (e < 9) {
                CHECKS.due("the zero 4", 9 - e, () -> x.multiplicity(0));
            }
            CHECKS.due("the zero 32002", e, () -> x.multiplicity(zeros - 1));
        }
        Counted y = withFourZeros();
        for (int zero = 0; zero < 4; zero++) {
            int k = zero;
            CHECKS.due("one of four zeros", 1, () -> y.multiplicity(k));
        }
        // (x - 4)(x - 4)(xx + 1): what has no number of the field isn't counted.
        Counted z = new Counted(1);
        z.setAndTake(0, 1, 4 * X, -8, 3 * X, 17, 2 * X, -8, X, 16, 0);
        CHECKS.due("run()", 1, z::run);
        CHECKS.due("total()", 4, z::total);
        CHECKS.due("multiplicity(0)", 2, () -> z.multiplicity(0));
    }

    private static void multiplicityExceptions() {
        CHECKS.sentence("9: throws IllegalStateException, IndexOutOfBoundsException");
        Counted x = ofPowers(2, 2 * X);
        for (int round = 0; round < 2; round++) {
            for (int zero : new int[] {MIN, -1, 0, 1, 15, 16, MAX}) {
                CHECKS.dueThrows("multiplicity(" + zero + ")", IllegalStateException.class,
                        () -> x.multiplicity(zero));
            }
            x.run();
        }
        Counted y = withFourZeros();
        for (int zero : new int[] {MIN, MIN + 1, -256, -2, -1, 4, 5, 15, 16, 17, 256, MAX}) {
            CHECKS.dueThrows("multiplicity(" + zero + ") of four", IndexOutOfBoundsException.class,
                    () -> y.multiplicity(zero));
        }
        CHECKS.due("multiplicity(3)", 1, () -> y.multiplicity(3));
    }

    private static void sixteenFactors() {
        CHECKS.sentence("Terms: and of all products of 16 factors, a letter less its number at the ZERO each");
        Counted x = new Counted(2);
        // The eighth power of y is x and xx is 0: the 15th power of y isn't 0, the 16th is.
        x.setAndTake(0, 1, 8 * Y, -1, X);
        x.setAndTake(1, 1, 2 * X);
        CHECKS.due("run()", 1, x::run);
        CHECKS.due("multiplicity(0)", 16, () -> x.multiplicity(0));
        CHECKS.due("minimal(1, 16)", 1, () -> x.minimal(1, 16));
        // The same away from 0: (x - 3)(x - 3), and y - 2 to the eighth is x - 3.
        Counted y = new Counted(2);
        int[] binomials = {1, 8, 28, 56, 70, 56, 28, 8, 1};
        long factor = 1;
        for (int e = 8; e >= 0; e--) {
            y.set(0, binomials[e] * factor, e * Y);
            factor = -2 * factor;
        }
        y.set(0, -1, X, 256 + 3, 0);
        y.setAndTake(0);
        y.setAndTake(1, 1, 2 * X, -6, X, 9, 0);
        CHECKS.due("run() away from 0", 1, y::run);
        CHECKS.due("at(0, 0)", 3, () -> y.at(0, 0));
        CHECKS.due("at(0, 1)", 2, () -> y.at(0, 1));
        CHECKS.due("multiplicity(0) away from 0", 16, () -> y.multiplicity(0));
        // x and y each have two numbers, of which three pairs are zeros: 0 and 0 thrice, the others once.
        Counted z = new Counted(2);
        z.setAndTake(0, 1, 3 * X, -1, 2 * X);
        z.setAndTake(1, 1, X + Y);
        z.setAndTake(2, 1, 3 * Y, -1, 2 * Y);
        CHECKS.due("run() of three zeros", 3, z::run);
        CHECKS.due("total()", 5, z::total);
        int[] due = {3, 1, 1};
        for (int zero = 0; zero < 3; zero++) {
            int k = zero;
            CHECKS.due("multiplicity(" + k + ")", due[k], () -> z.multiplicity(k));
        }
    }

    private static void exponentsOfLeast() {
        CHECKS.sentence("10: The number at an exponent in a letter's LEAST POLYNOMIAL; 0 for others");
        int[] others = {MIN, MIN + 1, -256, -17, -2, -1, 17, 18, 32, 33, 34, 256, MAX};
        for (int e = 1; e <= 9; e++) {
            Counted x = new Counted(1);
            x.setAndTake(0, 2, e * X, -2, 0);
            x.run();
            for (int i = 0; i <= 17; i++) {
                int k = i;
                CHECKS.due("minimal(0, " + k + ") of degree " + e, k == e ? 1 : k == 0 ? 32002 : 0,
                        () -> x.minimal(0, k));
            }
            for (int k : others) {
                CHECKS.due("minimal(0, " + k + ") of degree " + e, 0, () -> x.minimal(0, k));
            }
        }
        // The fourth power of y is x and that of x is 7, so the 16th of y is 7: the highest degree there is.
        Counted y = new Counted(2);
        y.setAndTake(0, 1, 4 * Y, -1, X);
        y.setAndTake(1, 1, 4 * X, -7, 0);
        CHECKS.dueTrue("16 left", y.run() >= 0 && y.total() == 16);
        for (int i = 0; i <= 17; i++) {
            int k = i;
            int seven = k == 0 ? P - 7 : 0;
            CHECKS.due("minimal(0, " + k + ")", k == 4 ? 1 : seven, () -> y.minimal(0, k));
            CHECKS.due("minimal(1, " + k + ")", k == 16 ? 1 : seven, () -> y.minimal(1, k));
        }
        for (int k : others) {
            CHECKS.due("minimal(0, " + k + ")", 0, () -> y.minimal(0, k));
            CHECKS.due("minimal(1, " + k + ")", 0, () -> y.minimal(1, k));
        }
    }

    private static void leastOfOne() {
        CHECKS.sentence("Terms: the LEAST POLYNOMIAL is the monic one, of the lowest degree, REDUCED to 0");
        for (int n = 1; n <= 3; n++) {
            Counted x = new Counted(n);
            x.setAndTake(0, 5, 0);
            CHECKS.due("run() of 5", 0, x::run);
            for (int letter = 0; letter < n; letter++) {
                int l = letter;
                CHECKS.due("minimal(" + l + ", 0): it is 1", 1, () -> x.minimal(l, 0));
                CHECKS.due("minimal(" + l + ", 1)", 0, () -> x.minimal(l, 1));
                CHECKS.due("minimal(" + l + ", -1)", 0, () -> x.minimal(l, -1));
            }
        }
        // Behind a list with a long one, nothing of that is left.
        Counted y = ofPowers(1, 9 * X);
        CHECKS.due("run()", 1, y::run);
        CHECKS.due("minimal(0, 9)", 1, () -> y.minimal(0, 9));
        y.setAndTake(1, 5, 0);
        CHECKS.due("run() with 5 too", 0, y::run);
        CHECKS.due("minimal(0, 9) then", 0, () -> y.minimal(0, 9));
        CHECKS.due("minimal(0, 0) then", 1, () -> y.minimal(0, 0));
        // Lower than the head's exponent: x is y at every zero.
        Counted z = new Counted(2);
        z.setAndTake(0, 1, X, -1, Y);
        z.setAndTake(1, 1, 2 * Y, -9, 0);
        CHECKS.due("run()", 2, z::run);
        CHECKS.due("minimal(0, 2)", 1, () -> z.minimal(0, 2));
        CHECKS.due("minimal(0, 1)", 0, () -> z.minimal(0, 1));
        CHECKS.due("minimal(0, 0)", 31994, () -> z.minimal(0, 0));
    }

    private static void lettersOfLeast() {
        CHECKS.sentence("10: IllegalArgumentException: no such letter");
        Counted x = withFourZeros();
        for (int letter : new int[] {MIN, MIN + 1, -256, -2, -1, 2, 3, 4, 16, 256, MAX}) {
            for (int exponent : new int[] {0, 2, -1, 17}) {
                CHECKS.dueThrows("minimal(" + letter + ", " + exponent + ")", IllegalArgumentException.class,
                        () -> x.minimal(letter, exponent));
            }
        }
        CHECKS.due("minimal(1, 2)", 1, () -> x.minimal(1, 2));
        x.take(39);
        for (int letter : new int[] {MIN, -1, 0, 1, 2, MAX}) {
            CHECKS.dueThrows("minimal(" + letter + ", 0) of what isn't known", IllegalStateException.class,
                    () -> x.minimal(letter, 0));
        }
    }

    private static void valueAsItIsNow() {
        CHECKS.sentence("11: The value of a polynomial, as it is now, at a ZERO");
        Counted x = withFourZeros();
        for (int zero = 0; zero < 4; zero++) {
            int k = zero;
            CHECKS.due("value(0, " + k + ") of one taken", 0, () -> x.value(0, k));
            CHECKS.due("value(1, " + k + ") of one taken", 0, () -> x.value(1, k));
            CHECKS.due("value(39, " + k + ") of 0", 0, () -> x.value(39, k));
        }
        x.set(0, 6, 0, 1, X, 0, 2 * X);
        // 6 + x now
        int[] due = {6, 6, 5, 5};
        for (int zero = 0; zero < 4; zero++) {
            int k = zero;
            CHECKS.due("value(0, " + k + ") of one changed", due[k], () -> x.value(0, k));
        }
        x.set(39, 1, 9 * X + 9 * Y);
        CHECKS.due("value(39, 3) of the highest power", 1, () -> x.value(39, 3));
        CHECKS.due("value(39, 1) at 0", 0, () -> x.value(39, 1));
        CHECKS.due("value(39, 2)", Math.floorMod(-1953125, P), () -> x.value(39, 2));
        CHECKS.due("poly()", 0, x::poly);
        CHECKS.due("value(0, 0) behind poly()", 0, () -> x.value(0, 0));
        CHECKS.due("zeros are as before", 32002, () -> x.at(2, 0));
    }

    private static void valueExceptions() {
        CHECKS.sentence("11: IllegalStateException: ZEROS aren't known (ahead of any other one)");
        Counted x = withFourZeros();
        int[] noPolynomials = {MIN, -1, 40, 41, MAX};
        int[] noZeros = {MIN, -1, 4, 16, MAX};
        for (int p : noPolynomials) {
            CHECKS.dueThrows("value(" + p + ", 0)", IndexOutOfBoundsException.class, () -> x.value(p, 0));
            for (int zero : noZeros) {
                CHECKS.dueThrows("value(" + p + ", " + zero + ")", IndexOutOfBoundsException.class,
                        () -> x.value(p, zero));
            }
        }
        for (int zero : noZeros) {
            CHECKS.dueThrows("value(0, " + zero + ")", IndexOutOfBoundsException.class, () -> x.value(0, zero));
        }
        x.take(39);
        for (int p : new int[] {MIN, -1, 0, 39, 40, 41, MAX}) {
            for (int zero : new int[] {MIN, -1, 0, 3, 4, 16, MAX}) {
                CHECKS.dueThrows("value(" + p + ", " + zero + ") of what isn't known",
                        IllegalStateException.class, () -> x.value(p, zero));
            }
        }
    }

    private static void freesAre(String name, Counted x, int... due) {
        for (int i = 0; i < 4; i++) {
            int k = i;
            CHECKS.due(name + ": free(" + k + ")", k < due.length ? due[k] : -1, () -> x.free(k));
        }
        for (int k : new int[] {MIN, MIN + 1, -256, -1, 16, 256, MAX}) {
            CHECKS.due(name + ": free(" + k + ")", -1, () -> x.free(k));
        }
    }

    private static Counted behindRun(int due, Counted x) {
        CHECKS.due("run()", due, x::run);
        return x;
    }

    private static void freeLetters() {
        CHECKS.sentence("12: The k-th letter of which no head in the LIST is a power alone; -1 if none such");
        freesAre("one letter, nothing", behindRun(-2, ofPowers(1)), 0);
        freesAre("one letter, xx", behindRun(1, ofPowers(1, 2 * X)));
        freesAre("two letters, nothing", behindRun(-2, ofPowers(2)), 0, 1);
        freesAre("two letters, x", behindRun(-2, ofPowers(2, X)), 1);
        freesAre("two letters, y", behindRun(-2, ofPowers(2, 9 * Y)), 0);
        freesAre("two letters, xy", behindRun(-2, ofPowers(2, X + Y)), 0, 1);
        freesAre("two letters, both", behindRun(1, ofPowers(2, X, Y)));
        freesAre("two letters, too many left", behindRun(-3, ofPowers(2, 9 * X, 9 * Y)));
        freesAre("three letters, nothing", behindRun(-2, ofPowers(3)), 0, 1, 2);
        freesAre("three letters, x", behindRun(-2, ofPowers(3, X)), 1, 2);
        freesAre("three letters, y", behindRun(-2, ofPowers(3, Y)), 0, 2);
        freesAre("three letters, z", behindRun(-2, ofPowers(3, Z)), 0, 1);
        freesAre("three letters, xx, yz", behindRun(-2, ofPowers(3, 2 * X, Y + Z)), 1, 2);
        freesAre("three letters, x, z", behindRun(-2, ofPowers(3, X, Z)), 1);
        freesAre("three letters, all", behindRun(1, ofPowers(3, X, Y, Z)));
        Counted x = new Counted(3);
        x.setAndTake(0, 1, 2 * X, 1, 0);
        x.setAndTake(1, 1, X + Z, 1, 0);
        freesAre("no basis", behindRun(-1, x), 1, 2);
    }

    private static void freeWithOneAsHead() {
        CHECKS.sentence("12: (none if 1 is a head)");
        for (int n = 1; n <= 3; n++) {
            freesAre(n + " letters, 1", behindRun(0, ofPowers(n, 0)));
        }
        freesAre("xy and 1", behindRun(0, ofPowers(3, X + Y, 0)));
        freesAre("1 and xy", behindRun(0, ofPowers(3, 0, X + Y)));
        Counted x = new Counted(2);
        x.setAndTake(0, 1, X + Y, 1, 0);
        freesAre("a number that is no head", behindRun(-2, x), 0, 1);
    }

    private static void freeAsItWas() {
        CHECKS.sentence("12: as it was when run() was asked latest");
        Counted x = ofPowers(3, X);
        freesAre("at run()", behindRun(-2, x), 1, 2);
        x.setAndTake(1, 1, Y);
        freesAre("behind take()", x, 1, 2);
        x.set(1, 1, 2 * Z);
        CHECKS.due("poly()", 0, x::poly);
        freesAre("behind term() and poly()", x, 1, 2);
        freesAre("at the next run()", behindRun(-2, x), 2);
        freesAre("at run() again", behindRun(-2, x), 2);
        x.setAndTake(2, 1, Z);
        freesAre("behind take()", x, 2);
        freesAre("at the next run()", behindRun(1, x));
        x.setAndTake(3, 1, X, 1, 0);
        freesAre("behind take()", x);
        freesAre("at a run() of no basis", behindRun(-1, x));
        for (int i = 4; i < 12; i++) {
            x.take(39);
        }
        CHECKS.no("take() when 12 are", () -> x.take(2));
        freesAre("behind a refused take()", x);
        // The list gets more: a letter isn't free any more just from the run() behind that on.
        Counted y = ofPowers(2, X + Y);
        freesAre("at run()", behindRun(-2, y), 0, 1);
        y.setAndTake(1, 7, 0);
        freesAre("behind take() of 7", y, 0, 1);
        freesAre("at the next run()", behindRun(0, y));
    }

    private static void freeAheadOfRun() {
        CHECKS.sentence("12: (none ahead of a run(), nor behind clear())");
        for (int n = 1; n <= 3; n++) {
            Counted x = new Counted(n);
            freesAre("a new object", x);
            x.poly();
            x.setAndTake(0, 1, 2 * X, 1, 0);
            freesAre("ahead of run()", x);
            int[][] due = {{}, {1}, {1, 2}};
            freesAre("behind run()", behindRun(n == 1 ? 0 : -2, x), due[n - 1]);
            x.clear();
            freesAre("behind clear()", x);
            x.take(0);
            freesAre("behind clear() and take()", x);
            int[][] all = {{0}, {0, 1}, {0, 1, 2}};
            freesAre("behind clear() and run()", behindRun(-2, x), all[n - 1]);
            x.clear();
            freesAre("behind clear() again", x);
        }
    }
}
