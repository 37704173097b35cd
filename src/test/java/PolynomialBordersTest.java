import java.math.BigInteger;

/**
 * The borders that the document names for letters, numbers, powers, polynomials, what is taken, and
 * clear and count: promises 1 to 4, 13, 14 and the sentences under "Terms" that belong to them. One
 * method for each sentence: the value at the border, the one below it and the one above it.
 */
public final class PolynomialBordersTest {
    private static final Checks CHECKS = new Checks();
    private static final int MIN = Integer.MIN_VALUE;
    private static final int MAX = Integer.MAX_VALUE;
    private static final int P = 32003;
    private static final int X = 1;
    private static final int Y = 16;
    private static final int Z = 256;
    private static final int[] LETTER_POWERS = {X, Y, Z};
    private static final int[] NO_POLYNOMIALS = {MIN, MIN + 39, -40, -2, -1, 40, 41, 79, 256, MAX};

    public static void main(String[] args) {
        fewerLettersThanOne();
        moreLettersThanThree();
        lettersEndAtN();
        numbersWrapAround();
        quotients();
        whetherItIsAnother();
        belowIsZero();
        exponentsEndAtNine();
        powersOfLettersThatAreNot();
        negativeAndHugePowers();
        polynomialsEndAtThirtyNine();
        allAreZeroAtFirst();
        numbersThatAreZeroAreNotThere();
        fortyAreGiven();
        nextBecomesZero();
        twelveAreTaken();
        zeroCountsAmongTheTwelve();
        thirteenthIsNotInTheList();
        takenAsTheyAreThen();
        listLeavesOutZero();
        takingForgets();
        refusedTakingForgetsNothing();
        clearedPolynomials();
        clearedTaken();
        clearedZeros();
        clearOfNothing();
        countsAtTheirBorders();
        otherCounts();
        CHECKS.end();
    }

    /** An object with one known zero: 2, 3, 5 at letters 0, 1, 2. Polynomials 0 .. n - 1 are taken. */
    private static Counted withZero(int n) {
        int[] numbers = {2, 3, 5};
        Counted x = new Counted(n);
        for (int letter = 0; letter < n; letter++) {
            x.setAndTake(letter, 1, LETTER_POWERS[letter], -numbers[letter], 0);
        }
        CHECKS.due("run() of a list with one zero", 1, x::run);
        return x;
    }

    private static void lettersAre(String name, int letters, int n) {
        CHECKS.due(name + ": count(2)", letters, () -> new Counted(n).count(2));
        Counted x = new Counted(n);
        CHECKS.due(name + ": run() of nothing", -2, x::run);
        for (int letter = 0; letter < 4; letter++) {
            int l = letter;
            CHECKS.due(name + ": free(" + l + ")", l < letters ? l : -1, () -> x.free(l));
        }
        for (int letter = 0; letter < letters; letter++) {
            x.setAndTake(letter, 1, LETTER_POWERS[letter], -letter - 7, 0);
        }
        CHECKS.due(name + ": run()", 1, x::run);
        for (int letter = 0; letter < letters; letter++) {
            int l = letter;
            CHECKS.due(name + ": at(0, " + l + ")", l + 7, () -> x.at(0, l));
        }
        CHECKS.dueThrows(name + ": at behind the last letter", IllegalArgumentException.class,
                () -> x.at(0, letters));
        CHECKS.dueThrows(name + ": minimal behind the last letter", IllegalArgumentException.class,
                () -> x.minimal(letters, 0));
        CHECKS.dueThrows(name + ": a power of a letter behind the last", IllegalArgumentException.class,
                () -> x.term(5, 1, 1, 1 << (4 * letters)));
    }

    private static void fewerLettersThanOne() {
        CHECKS.sentence("1: n letters: 1 if that is below 1");
        for (int n : new int[] {MIN, MIN + 1, MIN + 2, -3, -2, -1, 0, 1}) {
            lettersAre("new(" + n + ")", 1, n);
        }
        lettersAre("new(2)", 2, 2);
    }

    private static void moreLettersThanThree() {
        CHECKS.sentence("1: n letters: 3 if it is above 3");
        lettersAre("new(2)", 2, 2);
        for (int n : new int[] {3, 4, 5, 6, 255, 256, 257, 65537, MAX - 1, MAX}) {
            lettersAre("new(" + n + ")", 3, n);
        }
    }

    private static void lettersEndAtN() {
        CHECKS.sentence("Terms: LETTERS are 0 .. n - 1");
        for (int n = 1; n <= 3; n++) {
            Counted x = withZero(n);
            for (int letter : new int[] {MIN, -256, -1, 0, n - 1, n, n + 1, 3, 4, 16, MAX}) {
                if (letter >= 0 && letter < n) {
                    CHECKS.due("at(0, " + letter + ")", new int[] {2, 3, 5}[letter], () -> x.at(0, letter));
                    CHECKS.due("minimal(" + letter + ", 1)", 1, () -> x.minimal(letter, 1));
                } else {
                    CHECKS.dueThrows("at(0, " + letter + ")", IllegalArgumentException.class,
                            () -> x.at(0, letter));
                    CHECKS.dueThrows("minimal(" + letter + ", 1)", IllegalArgumentException.class,
                            () -> x.minimal(letter, 1));
                }
            }
        }
    }

    private static void numbersWrapAround() {
        CHECKS.sentence("Terms: NUMBERS are modulo 32003, 0 .. 32002");
        Counted x = withZero(1);
        long[][] due = {{0, 0}, {1, 1}, {32002, 32002}, {32003, 0}, {32004, 1}, {-1, 32002}, {-32002, 1},
            {-32003, 0}, {-32004, 32002}, {64005, 32002}, {64006, 0}, {MAX, MAX % P}, {MIN, P + MIN % P}};
        for (long[] pair : due) {
            x.term(9, pair[0], 1, 0);
            CHECKS.due("value of " + pair[0], pair[1], () -> x.value(9, 0));
        }
        x.set(10, 32002, 0, 16001, X);
        CHECKS.due("the value 32002 + 2 * 16001", 32001, () -> x.value(10, 0));
        x.set(10, 1, 0);
        CHECKS.due("the value 1 + 2 * 16001", 0, () -> x.value(10, 0));
        for (int number : new int[] {0, 1, 32001, 32002}) {
            Counted y = new Counted(1);
            y.setAndTake(0, 1, X, -number, 0);
            CHECKS.due("run() of a letter less " + number, 1, y::run);
            CHECKS.due("its zero", number, () -> y.at(0, 0));
            CHECKS.due("the number in its least polynomial", (P - number) % P, () -> y.minimal(0, 0));
        }
    }

    private static void quotients() {
        CHECKS.sentence("3: The number at a power: above through below modulo 32003");
        long[] some = {0, 1, 2, 3, 16001, 16002, 32001, 32002, 32003, 32004, 64007, Integer.MAX_VALUE,
            1L << 31, 1L << 32, Long.MAX_VALUE - 1, Long.MAX_VALUE};
        BigInteger p = BigInteger.valueOf(P);
        for (long above : some) {
            Counted x = withZero(1);
            for (long below : some) {
                for (int signs = 0; signs < 4; signs++) {
                    // The least long is the greatest one's complement, not its negative.
                    long a = (signs & 1) == 0 ? above : above > 1L << 40 ? ~above : -above;
                    long b = (signs & 2) == 0 ? below : below > 1L << 40 ? ~below : -below;
                    if (b % P == 0) {
                        continue;
                    }
                    x.term(9, a, b, 0);
                    BigInteger due = BigInteger.valueOf(a).multiply(BigInteger.valueOf(b).modInverse(p)).mod(p);
                    CHECKS.due(a + " through " + b, due.longValue(), () -> x.value(9, 0));
                }
            }
        }
    }

    private static void whetherItIsAnother() {
        CHECKS.sentence("3: whether it is another one");
        Counted x = new Counted(2);
        CHECKS.no("0 where none is", () -> x.term(0, 0, 1, X));
        CHECKS.no("32003, that is 0, where none is", () -> x.term(0, 32003, 5, X));
        CHECKS.yes("32002 where none is", () -> x.term(0, 32002, 1, X));
        CHECKS.no("32002 again", () -> x.term(0, 32002, 1, X));
        CHECKS.no("-1, the same", () -> x.term(0, -1, 1, X));
        CHECKS.no("1 through -1, the same", () -> x.term(0, 1, -1, X));
        CHECKS.no("64005, the same", () -> x.term(0, 64005, 1, X));
        CHECKS.yes("1, another", () -> x.term(0, 1, 1, X));
        CHECKS.no("5 through 5, the same", () -> x.term(0, 5, 5, X));
        CHECKS.yes("the same number at another power", () -> x.term(0, 1, 1, Y));
        CHECKS.yes("the same number in another polynomial", () -> x.term(1, 1, 1, X));
        CHECKS.yes("32003, that is 0", () -> x.term(0, 32003, 1, X));
        CHECKS.no("0 again", () -> x.term(0, 0, 1, X));
        CHECKS.yes("1 behind 0", () -> x.term(0, 1, 1, X));
        CHECKS.no("the number at the other power stands", () -> x.term(0, 1, 1, Y));
        CHECKS.no("the other polynomial stands", () -> x.term(1, 1, 1, X));
        CHECKS.yes("1 at the lowest power", () -> x.term(0, 1, 1, 0));
        CHECKS.no("1 at the lowest power again", () -> x.term(0, 1, 1, 0));
        CHECKS.yes("1 at the highest power", () -> x.term(0, 1, 1, 9 * X + 9 * Y));
        CHECKS.no("1 at the highest power again", () -> x.term(0, 1, 1, 9 * X + 9 * Y));
    }

    private static void belowIsZero() {
        CHECKS.sentence("3: ArithmeticException: below is 0 modulo 32003");
        long most = Long.MAX_VALUE / P * P;
        Counted x = withZero(1);
        x.set(9, 77, 0);
        for (long zero : new long[] {0, P, -P, 2 * P, -2 * P, most, -most, (1L << 32) * P, -(1L << 32) * P}) {
            for (long above : new long[] {0, 1, 77, P, zero, Long.MIN_VALUE}) {
                CHECKS.dueThrows(above + " through " + zero, ArithmeticException.class,
                        () -> x.term(9, above, zero, 0));
            }
            CHECKS.due("the number behind it", 77, () -> x.value(9, 0));
            CHECKS.no("that number again, through " + zero + " and 1 more", () -> x.term(9, 77, zero + 1, 0));
            CHECKS.no("that number again, through " + zero + " less 1", () -> x.term(9, -77, zero - 1, 0));
        }
    }

    private static void exponentsEndAtNine() {
        CHECKS.sentence("Terms: A POWER is a row of exponents, 0 .. 9 each");
        int[] numbers = {2, 3, 5};
        for (int n = 1; n <= 3; n++) {
            for (int letter = 0; letter < n; letter++) {
                Counted x = withZero(n);
                int due = 1;
                for (int e = 0; e <= 15; e++) {
                    int power = e * LETTER_POWERS[letter];
                    if (e > 9) {
                        CHECKS.dueThrows("exponent " + e + " of letter " + letter,
                                IllegalArgumentException.class, () -> x.term(9, 1, 1, power));
                        continue;
                    }
                    CHECKS.yes("exponent " + e + " of letter " + letter, () -> x.term(9, 1, 1, power));
                    CHECKS.due("its value", due, () -> x.value(9, 0));
                    x.set(9, 0, power);
                    due = due * numbers[letter] % P;
                }
            }
        }
    }

    private static void powersOfLettersThatAreNot() {
        CHECKS.sentence("3: IllegalArgumentException: no such power; Terms: one for each letter");
        for (int n = 1; n <= 3; n++) {
            Counted x = new Counted(n);
            for (int power = -40; power <= 0x1100; power++) {
                if (x.callsLeft() == 0) {
                    x = new Counted(n);
                }
                Counted y = x;
                int given = power;
                boolean such = power >= 0 && power < 1 << (4 * n)
                        && power % 16 <= 9 && power / 16 % 16 <= 9 && power / 256 % 16 <= 9;
                String name = n + " letters, power " + power;
                if (such) {
                    CHECKS.yes(name, () -> y.term(0, 1, 1, given));
                } else {
                    CHECKS.dueThrows(name, IllegalArgumentException.class, () -> y.term(0, 1, 1, given));
                }
            }
        }
    }

    private static void negativeAndHugePowers() {
        CHECKS.sentence("3: IllegalArgumentException: no such power; Terms: written as a number");
        for (int n = 1; n <= 3; n++) {
            Counted x = new Counted(n);
            int top = 0x999 & ((1 << (4 * n)) - 1);
            CHECKS.yes("the highest power", () -> x.term(0, 1, 1, top));
            CHECKS.dueThrows("the one behind it", IllegalArgumentException.class,
                    () -> x.term(0, 1, 1, top + 1));
            for (int bit = 4 * n; bit < 32; bit++) {
                int with = top | (1 << bit);
                int alone = 1 << bit;
                CHECKS.dueThrows("power " + with, IllegalArgumentException.class,
                        () -> x.term(0, 1, 1, with));
                CHECKS.dueThrows("power " + alone, IllegalArgumentException.class,
                        () -> x.term(0, 1, 1, alone));
            }
            for (int power : new int[] {MAX, MIN, -1, -2, -9, -16, -256, -4096, -65536, MIN + top}) {
                CHECKS.dueThrows("power " + power, IllegalArgumentException.class,
                        () -> x.term(0, 1, 1, power));
            }
            CHECKS.yes("the lowest power", () -> x.term(0, 1, 1, 0));
        }
    }

    private static void polynomialsEndAtThirtyNine() {
        CHECKS.sentence("Terms: POLYNOMIALS, 0 .. 39; IndexOutOfBoundsException: no such polynomial");
        Counted x = withZero(1);
        for (int p : NO_POLYNOMIALS) {
            CHECKS.dueThrows("term(" + p + ", ..)", IndexOutOfBoundsException.class, () -> x.term(p, 1, 1, X));
            CHECKS.dueThrows("take(" + p + ")", IndexOutOfBoundsException.class, () -> x.take(p));
            CHECKS.dueThrows("value(" + p + ", 0)", IndexOutOfBoundsException.class, () -> x.value(p, 0));
        }
        for (int p = 0; p < 40; p++) {
            int q = p;
            CHECKS.yes("term(" + p + ", ..) ahead of poly()", () -> x.term(q, own(q), 1, 9 * X));
        }
        for (int p = 1; p < 40; p++) {
            int q = p;
            CHECKS.due("value(" + p + ", 0) ahead of poly()", 512 * own(p) % P, () -> x.value(q, 0));
        }
        for (int p : new int[] {0, 1, 38, 39}) {
            CHECKS.yes("take(" + p + ") ahead of poly()", () -> x.take(p));
        }
        CHECKS.due("taken", 5, () -> x.count(1));
        CHECKS.due("given", 0, () -> x.count(0));
    }

    /** A number of its own for each polynomial. */
    private static int own(int polynomial) {
        return 100 + 7 * polynomial;
    }

    private static void allAreZeroAtFirst() {
        CHECKS.sentence("Terms: all are 0 at first");
        Counted x = new Counted(3);
        for (int p = 0; p < 40; p++) {
            for (int power : new int[] {0, X, Y, Z, 9 * X + 9 * Y + 9 * Z}) {
                int q = p;
                CHECKS.no("0 at power " + power + " of polynomial " + p, () -> x.term(q, 0, 1, power));
            }
        }
        Counted y = withZero(1);
        for (int p = 1; p < 40; p++) {
            int q = p;
            CHECKS.due("value(" + p + ", 0)", 0, () -> y.value(q, 0));
        }
        for (int first = 0; first < 40; first += 12) {
            Counted z = new Counted(1);
            for (int p = first; p < first + 12 && p < 40; p++) {
                int q = p;
                CHECKS.yes("take(" + p + ")", () -> z.take(q));
            }
            CHECKS.due("run() of those", -2, z::run);
        }
    }

    private static void numbersThatAreZeroAreNotThere() {
        CHECKS.sentence("Terms: POLYNOMIALS are sums of numbers that aren't 0 times powers");
        Counted x = new Counted(1);
        x.set(0, 1, 3 * X, 1, 2 * X, -4, 0);
        x.set(0, 32003, 3 * X);
        x.setAndTake(0);
        CHECKS.due("run() behind the head's number became 0", 2, x::run);
        CHECKS.due("left then", 2, x::total);
        x.clear();
        x.setAndTake(0, 1, 2 * X, -4, 0, 0, 9 * X, -32003, 8 * X);
        CHECKS.due("run() with a 0 put at a higher power", 2, x::run);
        x.clear();
        x.setAndTake(0, 1, 2 * X, -4, 0, 0, 2 * X, 0, 0);
        CHECKS.due("run() behind all numbers became 0", -2, x::run);
        CHECKS.due("its letter is free", 0, () -> x.free(0));
        x.clear();
        x.setAndTake(0, 1, 2 * X, 5, 0, 0, 2 * X);
        CHECKS.due("run() of the number that is left alone", 0, x::run);
        CHECKS.due("left then", 0, x::total);
    }

    private static void fortyAreGiven() {
        CHECKS.sentence("2: IllegalStateException: 40 were given");
        Counted x = withZero(1);
        for (int p = 0; p < 40; p++) {
            int q = p;
            CHECKS.due("count(0) ahead of poly()", p, () -> x.count(0));
            CHECKS.due("poly()", q, x::poly);
        }
        x.set(0, 11, 0);
        x.set(39, 13, 0);
        for (int i = 0; i < 3; i++) {
            CHECKS.dueThrows("poly() when 40 were given", IllegalStateException.class, x::poly);
            CHECKS.due("count(0) behind it", 40, () -> x.count(0));
        }
        CHECKS.due("polynomial 0 behind it", 11, () -> x.value(0, 0));
        CHECKS.due("polynomial 39 behind it", 13, () -> x.value(39, 0));
        CHECKS.due("taken behind it", 1, () -> x.count(1));
        CHECKS.due("run() behind it", 1, x::run);
        x.clear();
        for (int p = 0; p < 40; p++) {
            int q = p;
            CHECKS.due("poly() behind clear()", q, x::poly);
        }
        CHECKS.dueThrows("poly() when 40 were given again", IllegalStateException.class, x::poly);
    }

    private static void nextBecomesZero() {
        CHECKS.sentence("2: The next number of a polynomial, which becomes 0");
        Counted x = withZero(1);
        for (int p = 0; p < 40; p++) {
            x.set(p, own(p), 0, 1, 9 * X);
        }
        for (int p = 0; p < 40; p++) {
            int q = p;
            CHECKS.due("poly()", q, x::poly);
            CHECKS.due("value(" + p + ", 0), which became 0", 0, () -> x.value(q, 0));
            if (p > 0) {
                CHECKS.due("value(" + (p - 1) + ", 0), which was set again", 5, () -> x.value(q - 1, 0));
            }
            if (p < 39) {
                CHECKS.due("value(" + (p + 1) + ", 0), which isn't given yet", own(p + 1) + 512,
                        () -> x.value(q + 1, 0));
            }
            x.set(p, 5, 0);
        }
        CHECKS.due("what was taken stands", 1, x::run);
        CHECKS.due("its zero", 2, () -> x.at(0, 0));
    }

    private static void twelveAreTaken() {
        CHECKS.sentence("4: A polynomial is TAKEN; false if 12 are");
        Counted x = new Counted(1);
        x.set(0, 1, 2 * X, -1, 0);
        for (int i = 0; i < 12; i++) {
            CHECKS.due("count(1) ahead of take()", i, () -> x.count(1));
            CHECKS.yes("take() number " + (i + 1), () -> x.take(0));
        }
        CHECKS.due("count(1) when 12 are", 12, () -> x.count(1));
        for (int p : new int[] {0, 1, 39}) {
            CHECKS.no("take(" + p + ") when 12 are", () -> x.take(p));
            CHECKS.due("count(1) behind it", 12, () -> x.count(1));
        }
        CHECKS.due("run()", 2, x::run);
        CHECKS.no("take() when 12 are and zeros are known", () -> x.take(0));
        CHECKS.due("count(1) behind it", 12, () -> x.count(1));
        for (int p : new int[] {-1, 40}) {
            CHECKS.dueThrows("take(" + p + ") when 12 are", IndexOutOfBoundsException.class, () -> x.take(p));
        }
    }

    private static void zeroCountsAmongTheTwelve() {
        CHECKS.sentence("Terms: They are TAKEN, up to 12 (those that are 0, too)");
        Counted x = new Counted(1);
        for (int i = 0; i < 11; i++) {
            CHECKS.yes("take() of 0", () -> x.take(39));
        }
        CHECKS.due("count(1)", 11, () -> x.count(1));
        x.set(0, 1, X, -3, 0);
        CHECKS.yes("take() as the 12th", () -> x.take(0));
        CHECKS.due("run() sees the 12th", 1, x::run);
        CHECKS.due("its zero", 3, () -> x.at(0, 0));
        Counted y = new Counted(1);
        for (int i = 0; i < 12; i++) {
            CHECKS.yes("take() of 0", () -> y.take(39));
        }
        y.set(0, 1, X, -3, 0);
        CHECKS.no("take() behind twelve that are 0", () -> y.take(0));
        CHECKS.due("count(1)", 12, () -> y.count(1));
        CHECKS.due("run() of an empty list", -2, y::run);
    }

    private static void thirteenthIsNotInTheList() {
        CHECKS.sentence("Terms: up to 12; THE LIST are those taken");
        for (int last = 11; last <= 13; last++) {
            Counted x = new Counted(2);
            x.set(0, 1, 3 * X);
            x.set(1, 1, 2 * Y);
            for (int i = 1; i < last; i++) {
                x.take(0);
            }
            int place = last;
            CHECKS.due("take() of yy as number " + last, last <= 12 ? 1 : 0, () -> x.take(1) ? 1 : 0);
            CHECKS.due("run(), yy being number " + place, place <= 12 ? 1 : -2, x::run);
            CHECKS.due("free(0)", place <= 12 ? -1 : 1, () -> x.free(0));
        }
        // Each of the twelve takes at least one power from those that are left.
        Counted y = new Counted(3);
        int[] heads = {3 * X, 3 * Y, 3 * Z, X + Y + Z, 2 * X + Y, 2 * X + Z, X + 2 * Y, X + 2 * Z,
            2 * Y + Z, Y + 2 * Z, 2 * Z, 2 * Y};
        int[] due = {-2, -2, -3, -3, -3, 15, 14, 13, 11, 10, 9, 8};
        for (int i = 0; i < 12; i++) {
            int want = due[i];
            int power = heads[i];
            y.setAndTake(i, 1, power);
            CHECKS.due("run() with " + (i + 1) + " heads", want < 0 ? want : 1, y::run);
            if (want > 0) {
                CHECKS.due("left with " + (i + 1) + " heads", want, y::total);
            }
        }
    }

    private static void takenAsTheyAreThen() {
        CHECKS.sentence("Terms: They are TAKEN, as they are then");
        Counted x = new Counted(1);
        x.setAndTake(0, 1, 2 * X, -4, 0);
        x.set(0, 0, 2 * X, 1, X, -9, 0);
        CHECKS.due("run() behind a change", 2, x::run);
        CHECKS.due("at(0, 0)", 2, () -> x.at(0, 0));
        CHECKS.due("at(1, 0)", 32001, () -> x.at(1, 0));
        x.set(0, 1, 9 * X);
        CHECKS.due("known behind term()", 2, x::total);
        CHECKS.due("run() behind term()", 2, x::run);
        CHECKS.due("poly()", 0, x::poly);
        CHECKS.due("known behind poly()", 2, x::total);
        CHECKS.due("run() behind poly()", 2, x::run);
        CHECKS.due("minimal(0, 0)", 31999, () -> x.minimal(0, 0));
        x.setAndTake(0, 1, X, -2, 0);
        CHECKS.due("run() of both shapes of one polynomial", 1, x::run);
        CHECKS.due("left then", 1, x::total);
        CHECKS.due("taken", 2, () -> x.count(1));
    }

    private static void listLeavesOutZero() {
        CHECKS.sentence("Terms: THE LIST are those taken that aren't 0");
        for (int spot = 0; spot < 3; spot++) {
            Counted x = new Counted(2);
            x.set(0, 1, 2 * X, -1, 0);
            x.set(1, 1, 2 * Y, -1, X);
            int[] order = spot == 0 ? new int[] {39, 0, 1} : spot == 1 ? new int[] {0, 39, 1}
                    : new int[] {0, 1, 39};
            for (int p : order) {
                CHECKS.yes("take(" + p + ")", () -> x.take(p));
            }
            CHECKS.due("run() with 0 at spot " + spot, 2, x::run);
            CHECKS.due("left", 4, x::total);
            CHECKS.due("free(0)", -1, () -> x.free(0));
            CHECKS.due("taken", 3, () -> x.count(1));
        }
        Counted y = new Counted(3);
        CHECKS.yes("take() of 0", () -> y.take(0));
        CHECKS.due("run() of 0 alone", -2, y::run);
        for (int k = 0; k < 4; k++) {
            int l = k;
            CHECKS.due("free(" + k + ") of 0 alone", k < 3 ? k : -1, () -> y.free(l));
        }
    }

    private static void takingForgets() {
        CHECKS.sentence("4: What run() found isn't known any more if it is");
        Counted x = withZero(2);
        CHECKS.yes("take() of 0", () -> x.take(39));
        CHECKS.zerosAreUnknown("behind take() of 0", x);
        CHECKS.due("run() again", 1, x::run);
        CHECKS.due("known again", 1, x::total);
        CHECKS.yes("take() of one in the list", () -> x.take(0));
        CHECKS.zerosAreUnknown("behind take() of one in the list", x);
        CHECKS.due("run() again", 1, x::run);
        x.setAndTake(20, 1, X);
        CHECKS.due("run() of what is no basis", -1, x::run);
        CHECKS.zerosAreUnknown("behind a run() that found none", x);
        x.setAndTake(21, 1, 0);
        CHECKS.zerosAreUnknown("behind take()", x);
        CHECKS.due("run()", 0, x::run);
        CHECKS.due("known", 0, x::total);
    }

    private static void refusedTakingForgetsNothing() {
        CHECKS.sentence("4: false if 12 are. What run() found isn't known any more if it is (else it is)");
        Counted x = withZero(2);
        for (int i = 2; i < 12; i++) {
            x.take(i % 2);
        }
        CHECKS.due("run() with 12", 1, x::run);
        x.set(20, 1, X + Y);
        CHECKS.no("take() when 12 are", () -> x.take(20));
        CHECKS.due("total()", 1, x::total);
        CHECKS.due("left(0)", 0, () -> x.left(0));
        CHECKS.due("at(0, 1)", 3, () -> x.at(0, 1));
        CHECKS.due("multiplicity(0)", 1, () -> x.multiplicity(0));
        CHECKS.due("minimal(1, 0)", 32000, () -> x.minimal(1, 0));
        CHECKS.due("value(20, 0)", 6, () -> x.value(20, 0));
        CHECKS.due("run()", 1, x::run);
        for (int p : NO_POLYNOMIALS) {
            CHECKS.dueThrows("take(" + p + ")", IndexOutOfBoundsException.class, () -> x.take(p));
            CHECKS.due("total() behind it", 1, x::total);
        }
        Counted y = withZero(2);
        for (int p : NO_POLYNOMIALS) {
            CHECKS.dueThrows("take(" + p + ")", IndexOutOfBoundsException.class, () -> y.take(p));
            CHECKS.due("total() behind it", 1, y::total);
            CHECKS.due("count(1) behind it", 2, () -> y.count(1));
        }
    }

    private static void clearedPolynomials() {
        CHECKS.sentence("13: No polynomials");
        for (int given : new int[] {0, 1, 2, 39, 40}) {
            Counted x = new Counted(2);
            for (int i = 0; i < given; i++) {
                x.poly();
            }
            for (int p = 0; p < 40; p++) {
                x.set(p, own(p), X + 2 * Y, 1, 0);
            }
            x.clear();
            CHECKS.due("count(0) behind clear() of " + given, 0, () -> x.count(0));
            for (int p = 0; p < 40; p++) {
                int q = p;
                CHECKS.no("0 at a power of polynomial " + p, () -> x.term(q, 0, 1, X + 2 * Y));
                CHECKS.no("0 at 1 of polynomial " + p, () -> x.term(q, 0, 1, 0));
            }
            CHECKS.due("poly() behind clear() of " + given, 0, x::poly);
            CHECKS.due("poly()", 1, x::poly);
            CHECKS.due("count(0)", 2, () -> x.count(0));
        }
    }

    private static void clearedTaken() {
        CHECKS.sentence("13: nothing TAKEN");
        Counted x = new Counted(2);
        for (int round = 0; round < 3; round++) {
            x.set(0, 1, 2 * X, -1, 0);
            x.set(1, 1, Y);
            for (int i = 0; i < 12; i++) {
                int p = i % 2;
                CHECKS.yes("take() number " + (i + 1) + " of round " + round, () -> x.take(p));
            }
            CHECKS.no("take() number 13 of round " + round, () -> x.take(0));
            CHECKS.due("run()", 2, x::run);
            x.clear();
            CHECKS.due("count(1)", 0, () -> x.count(1));
            CHECKS.due("run() of nothing", -2, x::run);
            CHECKS.due("free(0)", 0, () -> x.free(0));
            CHECKS.due("free(1)", 1, () -> x.free(1));
        }
    }

    private static void clearedZeros() {
        CHECKS.sentence("13: ZEROS aren't known");
        Counted x = withZero(3);
        x.clear();
        CHECKS.zerosAreUnknown("behind clear()", x);
        CHECKS.due("the letters stay", 3, () -> x.count(2));
        CHECKS.due("run()", -2, x::run);
        CHECKS.zerosAreUnknown("behind run() of nothing", x);
        for (int letter = 0; letter < 3; letter++) {
            x.setAndTake(letter, 1, LETTER_POWERS[letter], 1, 0);
        }
        CHECKS.zerosAreUnknown("ahead of run()", x);
        CHECKS.due("run() of another list", 1, x::run);
        CHECKS.due("at(0, 2)", 32002, () -> x.at(0, 2));
    }

    private static void clearOfNothing() {
        CHECKS.sentence("13: void clear() (of a new object, and twice)");
        for (int n = 1; n <= 3; n++) {
            Counted x = new Counted(n);
            x.clear();
            x.clear();
            int letters = n;
            CHECKS.due("count(0)", 0, () -> x.count(0));
            CHECKS.due("count(1)", 0, () -> x.count(1));
            CHECKS.due("count(2)", letters, () -> x.count(2));
            CHECKS.due("free(0)", -1, () -> x.free(0));
            CHECKS.zerosAreUnknown("behind clear()", x);
            CHECKS.due("poly()", 0, x::poly);
            CHECKS.dueThrows("the letters stay", IllegalArgumentException.class,
                    () -> x.term(0, 1, 1, 1 << (4 * letters)));
        }
    }

    private static void countsAtTheirBorders() {
        CHECKS.sentence("14: what 0: numbers that were given; 1: polynomials TAKEN; 2: letters");
        for (int n = 1; n <= 3; n++) {
            Counted x = new Counted(n);
            int letters = n;
            for (int i = 0; i <= 41; i++) {
                int given = Math.min(i, 40);
                int taken = Math.min(i, 12);
                CHECKS.due("count(0)", given, () -> x.count(0));
                CHECKS.due("count(1)", taken, () -> x.count(1));
                CHECKS.due("count(2)", letters, () -> x.count(2));
                Checks.outcome(x::poly);
                x.take(39);
            }
            x.set(3, 1, X, 5, 0);
            x.run();
            CHECKS.due("count(0) behind term() and run()", 40, () -> x.count(0));
            CHECKS.due("count(1) behind term() and run()", 12, () -> x.count(1));
        }
        Counted y = new Counted(2);
        y.set(30, 1, X);
        y.take(30);
        CHECKS.due("numbers given: none by term() and take()", 0, () -> y.count(0));
        y.poly();
        CHECKS.due("polynomials taken: none by poly()", 1, () -> y.count(1));
    }

    private static void otherCounts() {
        CHECKS.sentence("14: -1 for another what");
        Counted x = withZero(3);
        x.poly();
        for (int what : new int[] {MIN, MIN + 1, MIN + 2, -256, -3, -2, -1, 3, 4, 5, 256, 257, 65536, MAX}) {
            CHECKS.due("count(" + what + ")", -1, () -> x.count(what));
        }
        CHECKS.due("count(0)", 1, () -> x.count(0));
        CHECKS.due("count(1)", 3, () -> x.count(1));
        CHECKS.due("count(2)", 3, () -> x.count(2));
    }
}
