/** One method for each promise of the document: ordinary inputs, the edges it names, wrong inputs. */
public final class PromisesTest {
    private static final Checks CHECKS = new Checks();
    private static final int MIN = Integer.MIN_VALUE;
    private static final int MAX = Integer.MAX_VALUE;

    private static final int X = 1;
    private static final int Y = 16;
    private static final int Z = 256;

    public static void main(String[] args) {
        newObject();
        poly();
        termNumbers();
        termPowers();
        termExceptions();
        take();
        takeCopies();
        runBasis();
        runExponentsBeyondNine();
        runFinite();
        runTooMany();
        runZeros();
        total();
        leftPowers();
        at();
        multiplicity();
        multiplicitySixteen();
        minimal();
        minimalLong();
        value();
        free();
        clear();
        count();
        CHECKS.end();
    }

    private static void newObject() {
        int[][] due = {{MIN, 1}, {-1, 1}, {0, 1}, {1, 1}, {2, 2}, {3, 3}, {4, 3}, {MAX, 3}};
        for (int[] pair : due) {
            Counted x = new Counted(pair[0]);
            CHECKS.due("letters of " + pair[0], pair[1], () -> x.count(2));
            CHECKS.due("given at first", 0, () -> x.count(0));
            CHECKS.due("taken at first", 0, () -> x.count(1));
            CHECKS.due("free(0) at first", -1, () -> x.free(0));
            CHECKS.zerosAreUnknown("at first", x);
        }
    }

    private static void poly() {
        Counted x = new Counted(2);
        CHECKS.yes("term ahead of poly()", () -> x.term(1, 5, 1, X));
        for (int p = 0; p < 40; p++) {
            int want = p;
            CHECKS.due("poly()", want, () -> x.poly());
        }
        CHECKS.no("the number that poly() has made 0", () -> x.term(1, 0, 1, X));
        CHECKS.dueThrows("poly() the 41st time", IllegalStateException.class, () -> x.poly());
        CHECKS.dueThrows("poly() the 42nd time", IllegalStateException.class, () -> x.poly());
        CHECKS.due("given", 40, () -> x.count(0));
        x.clear();
        CHECKS.due("poly() behind clear()", 0, () -> x.poly());
    }

    private static void termNumbers() {
        Counted x = new Counted(1);
        CHECKS.no("0 where 0 is", () -> x.term(39, 0, 1, X));
        CHECKS.no("32003 where 0 is", () -> x.term(39, 32003, 1, X));
        CHECKS.yes("3 through 6", () -> x.term(39, 3, 6, X));
        CHECKS.no("1 through 2 is the same", () -> x.term(39, 1, 2, X));
        CHECKS.no("-1 through -2 is the same", () -> x.term(39, -1, -2, X));
        CHECKS.no("16002 is the same", () -> x.term(39, 16002, 1, X));
        CHECKS.yes("0 through 7", () -> x.term(39, 0, 7, X));
        CHECKS.no("-32003 through 7", () -> x.term(39, -32003, 7, X));
        long big = Long.MIN_VALUE;
        long bigNumber = Math.floorMod(big, 32003L);
        CHECKS.yes("the least long", () -> x.term(39, big, 1, X));
        CHECKS.no("its number", () -> x.term(39, bigNumber, 1, X));
        CHECKS.yes("1", () -> x.term(39, 1, 1, X));
        CHECKS.no("the least long through itself", () -> x.term(39, big, big, X));
        CHECKS.no("the greatest through itself", () -> x.term(39, Long.MAX_VALUE, Long.MAX_VALUE, X));
    }

    private static void termPowers() {
        int[] highest = {0, 9, 9 + 9 * 16, 9 + 9 * 16 + 9 * 256};
        for (int n = 1; n <= 3; n++) {
            for (int power = -20; power < 5000; power++) {
                Counted x = new Counted(n);
                int given = power;
                boolean fits = power >= 0 && (power & 15) <= 9 && ((power >> 4) & 15) <= 9
                        && power >> 8 <= 9 && power < 1 << (4 * n);
                if (fits) {
                    CHECKS.yes("term at " + power, () -> x.term(0, 1, 1, given));
                } else {
                    CHECKS.dueThrows("term at " + power, IllegalArgumentException.class,
                            () -> x.term(0, 1, 1, given));
                }
            }
            Counted x = new Counted(n);
            int top = highest[n];
            CHECKS.yes("the highest power", () -> x.term(0, 2, 1, top));
            for (int wrong : new int[] {MIN, MAX, MIN + 1, 1 << 16, 1 << 30, 0x0fff, 10, 15}) {
                CHECKS.dueThrows("term at " + wrong, IllegalArgumentException.class,
                        () -> x.term(0, 1, 1, wrong));
            }
        }
    }

    private static void termExceptions() {
        Counted x = new Counted(2);
        for (int p : new int[] {-1, 40, MIN, MAX}) {
            CHECKS.dueThrows("no such polynomial, all else wrong too", IndexOutOfBoundsException.class,
                    () -> x.term(p, 1, 0, -1));
        }
        CHECKS.dueThrows("no such power, below 0", IllegalArgumentException.class,
                () -> x.term(0, 1, 0, 256));
        for (long below : new long[] {0, 32003, -32003, 64006L * 1000000007L}) {
            CHECKS.dueThrows("below " + below, ArithmeticException.class, () -> x.term(0, 1, below, 1));
        }
        CHECKS.no("nothing has changed", () -> x.term(0, 0, 1, 1));
    }

    private static void take() {
        Counted x = new Counted(1);
        for (int p : new int[] {-1, 40, MIN, MAX}) {
            CHECKS.dueThrows("take(" + p + ")", IndexOutOfBoundsException.class, () -> x.take(p));
        }
        x.setAndTake(0, 1, 2, -1, 0);
        CHECKS.due("run()", 2, () -> x.run());
        CHECKS.yes("take(39), which is 0", () -> x.take(39));
        CHECKS.zerosAreUnknown("behind take()", x);
        CHECKS.due("run() again", 2, () -> x.run());
        for (int i = 2; i < 12; i++) {
            CHECKS.yes("take(1)", () -> x.take(1));
        }
        CHECKS.due("run() with 12", 2, () -> x.run());
        CHECKS.no("take(0) the 13th time", () -> x.take(0));
        CHECKS.due("zeros are still known", 2, () -> x.total());
        CHECKS.due("taken", 12, () -> x.count(1));
        CHECKS.dueThrows("take(40) when 12 are", IndexOutOfBoundsException.class, () -> x.take(40));
    }

    private static void takeCopies() {
        Counted x = new Counted(1);
        x.setAndTake(0, 1, 2, -4, 0);
        x.set(0, 0, 2, 1, 1, 5, 0);
        CHECKS.due("run()", 2, () -> x.run());
        CHECKS.due("at(0, 0)", 2, () -> x.at(0, 0));
        CHECKS.due("at(1, 0)", 32001, () -> x.at(1, 0));
        CHECKS.yes("term behind run()", () -> x.term(0, 3, 1, 9));
        CHECKS.due("poly() behind run()", 0, () -> x.poly());
        CHECKS.due("zeros are still known", 2, () -> x.total());
        CHECKS.due("run() as before", 2, () -> x.run());
    }

    private static void runBasis() {
        Counted x = new Counted(2);
        x.setAndTake(0, 1, 2 * X, 1, 0);
        x.setAndTake(1, 1, X + Y, 1, 0);
        CHECKS.due("xx + 1, xy + 1", -1, () -> x.run());
        CHECKS.zerosAreUnknown("without a basis", x);
        x.clear();
        x.setAndTake(0, 1, 2 * X, -1, Y);
        x.setAndTake(1, 7, 2 * Y, -7, X);
        CHECKS.due("heads without a common letter", 2, () -> x.run());
        CHECKS.due("left", 4, () -> x.total());
        x.clear();
        x.setAndTake(0, 1, 2 * X);
        x.setAndTake(1, 1, X + Y);
        x.setAndTake(2, 1, 2 * Y);
        CHECKS.due("three powers", 1, () -> x.run());
        CHECKS.due("left", 3, () -> x.total());
        x.clear();
        x.setAndTake(0, 1, 2 * X, 1, 0);
        x.setAndTake(1, 1, X + Y, 1, 0);
        x.setAndTake(2, 1, 0);
        CHECKS.due("1 makes each list a basis", 0, () -> x.run());
        x.clear();
        x.setAndTake(0, 1, 2 * X, -1, Y);
        x.setAndTake(1, 1, X + Y, -1, 0);
        CHECKS.due("xx - y, xy - 1", -1, () -> x.run());
        x.setAndTake(2, 5, 2 * Y, -5, X);
        CHECKS.due("with 5yy - 5x it is one", 1, () -> x.run());
        CHECKS.due("left", 3, () -> x.total());
    }

    private static void runExponentsBeyondNine() {
        Counted x = new Counted(3);
        // The multiples of both heads have degree 27; on the way exponents go up to 18.
        x.setAndTake(0, 1, 9 * X + 9 * Y, -1, 9 * X + 9 * Z);
        x.setAndTake(1, 1, 9 * Y + 9 * Z, -1, 9 * Z);
        CHECKS.due("run()", -1, () -> x.run());
        x.clear();
        x.setAndTake(0, 1, 9 * X + 9 * Y + 9 * Z);
        x.setAndTake(1, 1, 9 * X + 9 * Y + 8 * Z);
        CHECKS.due("the highest power of all", -2, () -> x.run());
        x.clear();
        // The second is z times the first.
        x.setAndTake(0, 1, 9 * X, -1, 9 * Y);
        x.setAndTake(1, 1, 9 * X + Z, -1, 9 * Y + Z);
        CHECKS.due("a multiple besides", -2, () -> x.run());
        CHECKS.due("free(0)", 1, () -> x.free(0));
        CHECKS.due("free(1)", 2, () -> x.free(1));
    }

    private static void runFinite() {
        Counted x = new Counted(2);
        CHECKS.due("run() of nothing", -2, () -> x.run());
        CHECKS.zerosAreUnknown("of nothing", x);
        x.setAndTake(0);
        CHECKS.due("run() of 0", -2, () -> x.run());
        x.setAndTake(1, 1, 3 * X, 1, Y);
        CHECKS.due("y is free", -2, () -> x.run());
        x.setAndTake(2, 1, X + 2 * Y);
        CHECKS.due("not a basis comes first", -1, () -> x.run());
        x.clear();
        x.setAndTake(1, 1, 3 * X);
        x.setAndTake(2, 1, X + 2 * Y);
        CHECKS.due("xyy is no power of y alone", -2, () -> x.run());
        x.setAndTake(3, 3, 0);
        CHECKS.due("3 is a head", 0, () -> x.run());
    }

    private static void runTooMany() {
        Counted x = new Counted(2);
        x.setAndTake(0, 1, 4 * X);
        x.setAndTake(1, 1, 4 * Y);
        CHECKS.due("16 are left", 1, () -> x.run());
        CHECKS.due("total()", 16, () -> x.total());
        CHECKS.due("left(15)", 3 * X + 3 * Y, () -> x.left(15));
        x.clear();
        x.setAndTake(0, 1, 3 * X);
        x.setAndTake(1, 1, 6 * Y);
        CHECKS.due("18 are left", -3, () -> x.run());
        CHECKS.zerosAreUnknown("with too many left", x);
        CHECKS.due("none is free", -1, () -> x.free(0));
        x.setAndTake(2, 1, 2 * X + 5 * Y);
        CHECKS.due("17 are left", -3, () -> x.run());
        x.setAndTake(3, 1, 2 * X + 4 * Y);
        CHECKS.due("16 are left", 1, () -> x.run());
        CHECKS.due("it counts 16 times", 16, () -> x.multiplicity(0));
        Counted y = new Counted(3);
        for (int letter = 0; letter < 3; letter++) {
            y.setAndTake(letter, 1, 9 << (4 * letter));
        }
        CHECKS.due("729 are left", -3, () -> y.run());
    }

    private static void runZeros() {
        Counted x = new Counted(2);
        x.setAndTake(0, 1, 2 * X, -1, 0);
        x.setAndTake(1, 1, 2 * Y, -1, X);
        // x is 1 or -1; -1 is no square modulo 32003.
        CHECKS.due("xx - 1, yy - x", 2, () -> x.run());
        CHECKS.due("at(0, 0)", 1, () -> x.at(0, 0));
        CHECKS.due("at(0, 1)", 1, () -> x.at(0, 1));
        CHECKS.due("at(1, 0)", 1, () -> x.at(1, 0));
        CHECKS.due("at(1, 1)", 32002, () -> x.at(1, 1));
        Counted y = new Counted(1);
        y.setAndTake(0, 1, 9, -1, 0);
        // 32002 is 2 times 16001, a prime: 1 is the one ninth root of 1.
        CHECKS.due("ninth roots of 1", 1, () -> y.run());
        y.clear();
        y.setAndTake(0, 1, 2, 1, 0);
        CHECKS.due("roots of -1", 0, () -> y.run());
        CHECKS.due("total()", 2, () -> y.total());
        CHECKS.dueThrows("at(0, 0)", IndexOutOfBoundsException.class, () -> y.at(0, 0));
        y.clear();
        y.setAndTake(0, 1, 1);
        CHECKS.due("x alone", 1, () -> y.run());
        CHECKS.due("its zero", 0, () -> y.at(0, 0));
    }

    private static void total() {
        Counted x = new Counted(3);
        x.setAndTake(0, 1, X, -5, 0);
        x.setAndTake(1, 1, Y, -6, 0);
        x.setAndTake(2, 1, Z, -7, 0);
        CHECKS.due("run()", 1, () -> x.run());
        CHECKS.due("total()", 1, () -> x.total());
        x.setAndTake(3, 9, 0);
        CHECKS.due("run()", 0, () -> x.run());
        CHECKS.due("total() with a number in the list", 0, () -> x.total());
        CHECKS.due("left(0)", -1, () -> x.left(0));
        for (int letter = 0; letter < 3; letter++) {
            int l = letter;
            CHECKS.due("minimal(" + l + ", 0)", 1, () -> x.minimal(l, 0));
            CHECKS.due("minimal(" + l + ", 1)", 0, () -> x.minimal(l, 1));
        }
    }

    private static void leftPowers() {
        Counted x = new Counted(3);
        x.setAndTake(0, 1, 3 * X);
        x.setAndTake(1, 1, 2 * Y);
        x.setAndTake(2, 1, 2 * Z);
        CHECKS.due("run()", 1, () -> x.run());
        int[] due = {0, Z, Y, X, Y + Z, X + Z, X + Y, 2 * X,
            X + Y + Z, 2 * X + Z, 2 * X + Y, 2 * X + Y + Z};
        CHECKS.due("total()", due.length, () -> x.total());
        for (int k = 0; k < due.length; k++) {
            int i = k;
            CHECKS.due("left(" + k + ")", due[k], () -> x.left(i));
        }
        for (int k : new int[] {-1, due.length, 16, 17, MIN, MAX}) {
            CHECKS.due("left(" + k + ")", -1, () -> x.left(k));
        }
    }

    private static void at() {
        Counted x = new Counted(2);
        // (x - 3)(x - 32000), (y - 1)(y - 20000)
        x.setAndTake(0, 1, 2 * X, -32003, X, 96000, 0);
        x.setAndTake(1, 1, 2 * Y, -20001, Y, 20000, 0);
        CHECKS.due("run()", 4, () -> x.run());
        int[][] due = {{3, 1}, {3, 20000}, {32000, 1}, {32000, 20000}};
        for (int zero = 0; zero < 4; zero++) {
            for (int letter = 0; letter < 2; letter++) {
                int z = zero;
                int l = letter;
                CHECKS.due("at(" + z + ", " + l + ")", due[z][l], () -> x.at(z, l));
            }
        }
        for (int wrong : new int[] {-1, 4, 16, MIN, MAX}) {
            CHECKS.dueThrows("at(" + wrong + ", 0)", IndexOutOfBoundsException.class, () -> x.at(wrong, 0));
            CHECKS.dueThrows("at(" + wrong + ", 2)", IndexOutOfBoundsException.class, () -> x.at(wrong, 2));
            CHECKS.dueThrows("multiplicity", IndexOutOfBoundsException.class, () -> x.multiplicity(wrong));
            CHECKS.dueThrows("value", IndexOutOfBoundsException.class, () -> x.value(0, wrong));
        }
        for (int wrong : new int[] {-1, 2, 3, MIN, MAX}) {
            CHECKS.dueThrows("at(0, " + wrong + ")", IllegalArgumentException.class, () -> x.at(0, wrong));
        }
    }

    private static void multiplicity() {
        Counted x = new Counted(2);
        // x(x - 1)(x - 1), y(x - 1), yy: 0, 0 once; 1, 0 three times.
        x.setAndTake(0, 1, 3 * X, -2, 2 * X, 1, X);
        x.setAndTake(1, 1, X + Y, -1, Y);
        x.setAndTake(2, 1, 2 * Y);
        CHECKS.due("run()", 2, () -> x.run());
        CHECKS.due("multiplicity(0)", 1, () -> x.multiplicity(0));
        CHECKS.due("multiplicity(1)", 3, () -> x.multiplicity(1));
        x.clear();
        // xx(x - 1), yy(y - 5): each zero counts by the product of both letters' counts.
        x.setAndTake(0, 1, 3 * X, -1, 2 * X);
        x.setAndTake(1, 1, 3 * Y, -5, 2 * Y);
        CHECKS.due("run()", 4, () -> x.run());
        int[] due = {4, 2, 2, 1};
        for (int zero = 0; zero < 4; zero++) {
            int z = zero;
            CHECKS.due("multiplicity(" + z + ")", due[z], () -> x.multiplicity(z));
        }
        x.clear();
        // Two zeros have 0 for x: each letter alone tells too little.
        x.setAndTake(0, 1, 2 * X);
        x.setAndTake(1, 1, 3 * Y, -1, 2 * Y, 4, X);
        CHECKS.due("run()", 2, () -> x.run());
        CHECKS.due("multiplicity(0)", 4, () -> x.multiplicity(0));
        CHECKS.due("multiplicity(1)", 2, () -> x.multiplicity(1));
        Counted y = new Counted(1);
        y.setAndTake(0, 1, 9);
        CHECKS.due("run()", 1, () -> y.run());
        CHECKS.due("multiplicity(0)", 9, () -> y.multiplicity(0));
        y.clear();
        // (x - 4)(x - 4)(xx + 1)
        y.setAndTake(0, 1, 4, -8, 3, 17, 2, -8, 1, 16, 0);
        CHECKS.due("run()", 1, () -> y.run());
        CHECKS.due("multiplicity(0)", 2, () -> y.multiplicity(0));
    }

    private static void multiplicitySixteen() {
        Counted x = new Counted(2);
        // x is the eighth power of y and xx is 0, so the 16th power of y is the first that is 0.
        x.setAndTake(0, 1, 8 * Y, -1, X);
        x.setAndTake(1, 1, 2 * X);
        CHECKS.due("run()", 1, () -> x.run());
        CHECKS.due("total()", 16, () -> x.total());
        CHECKS.due("multiplicity(0)", 16, () -> x.multiplicity(0));
        CHECKS.due("minimal(1, 16)", 1, () -> x.minimal(1, 16));
        CHECKS.due("minimal(1, 15)", 0, () -> x.minimal(1, 15));
        CHECKS.due("minimal(1, 17)", 0, () -> x.minimal(1, 17));
        CHECKS.due("minimal(0, 2)", 1, () -> x.minimal(0, 2));
    }

    private static void minimal() {
        Counted x = new Counted(2);
        // 3(x - 2)(x - 2), (y - 1)(y - 2)
        x.setAndTake(0, 3, 2 * X, -12, X, 12, 0);
        x.setAndTake(1, 1, 2 * Y, -3, Y, 2, 0);
        CHECKS.due("run()", 2, () -> x.run());
        int[][] due = {{4, 31999, 1, 0}, {2, 32000, 1, 0}};
        for (int letter = 0; letter < 2; letter++) {
            for (int e = 0; e < 4; e++) {
                int l = letter;
                int exponent = e;
                CHECKS.due("minimal(" + l + ", " + e + ")", due[l][e], () -> x.minimal(l, exponent));
            }
            for (int e : new int[] {-1, 16, 17, 33, 99, MIN, MAX}) {
                int l = letter;
                CHECKS.due("minimal(" + l + ", " + e + ")", 0, () -> x.minimal(l, e));
            }
        }
        for (int wrong : new int[] {-1, 2, 3, MIN, MAX}) {
            CHECKS.dueThrows("minimal(" + wrong + ", 0)", IllegalArgumentException.class,
                    () -> x.minimal(wrong, 0));
        }
        x.clear();
        // y = x at all zeros, so both letters have the same least polynomial, below the head's degree.
        x.setAndTake(0, 1, 1, -1, 16);
        x.setAndTake(1, 1, 2 * Y, -9, 0);
        CHECKS.due("run()", 2, () -> x.run());
        CHECKS.due("minimal(0, 0)", 31994, () -> x.minimal(0, 0));
        CHECKS.due("minimal(0, 2)", 1, () -> x.minimal(0, 2));
        x.clear();
        x.setAndTake(0, 1, 2 * X, -1, X);
        x.setAndTake(1, 1, X + Y, -1, Y);
        x.setAndTake(2, 1, 2 * Y, -1, Y);
        CHECKS.due("run()", 3, () -> x.run());
        CHECKS.due("minimal(0, 1)", 32002, () -> x.minimal(0, 1));
    }

    private static void minimalLong() {
        Counted x = new Counted(2);
        // yyyy = x, xxxx = 1: the least polynomial of y is y^16 - 1.
        x.setAndTake(0, 1, 4 * Y, -1, X);
        x.setAndTake(1, 1, 4 * X, -1, 0);
        CHECKS.due("run()", 2, () -> x.run());
        CHECKS.due("minimal(1, 16)", 1, () -> x.minimal(1, 16));
        CHECKS.due("minimal(1, 0)", 32002, () -> x.minimal(1, 0));
        CHECKS.due("minimal(1, 4)", 0, () -> x.minimal(1, 4));
        CHECKS.due("minimal(0, 4)", 1, () -> x.minimal(0, 4));
    }

    private static void value() {
        Counted x = new Counted(3);
        x.setAndTake(0, 1, X, -2, 0);
        x.setAndTake(1, 1, Y, -3, 0);
        x.setAndTake(2, 1, Z, 1, 0);
        CHECKS.due("run()", 1, () -> x.run());
        CHECKS.due("value of one in the list", 0, () -> x.value(2, 0));
        CHECKS.due("value of 0", 0, () -> x.value(39, 0));
        x.set(5, 1, 9 * X + 9 * Y + 9 * Z, 4, X + 2 * Y, 10, 0);
        // -(2^9)(3^9) + 4 * 18 + 10
        CHECKS.due("value(5, 0)", Math.floorMod(-512L * 19683 + 82, 32003L), () -> x.value(5, 0));
        x.set(5, 0, 9 * X + 9 * Y + 9 * Z);
        CHECKS.due("value(5, 0) as it is now", 82, () -> x.value(5, 0));
        x.set(2, 5, 0);
        CHECKS.due("value(2, 0) as it is now", 4, () -> x.value(2, 0));
        for (int p : new int[] {-1, 40, MIN, MAX}) {
            CHECKS.dueThrows("value(" + p + ", 0)", IndexOutOfBoundsException.class, () -> x.value(p, 0));
        }
        CHECKS.dueThrows("value(0, 1)", IndexOutOfBoundsException.class, () -> x.value(0, 1));
        CHECKS.dueThrows("value(0, -1)", IndexOutOfBoundsException.class, () -> x.value(0, -1));
        CHECKS.due("at is as before", 2, () -> x.at(0, 0));
    }

    private static void free() {
        Counted x = new Counted(3);
        CHECKS.due("free(0) ahead of run()", -1, () -> x.free(0));
        x.setAndTake(0, 1, 2 * Y, 1, X);
        CHECKS.due("free(0) ahead of run()", -1, () -> x.free(0));
        CHECKS.due("run()", -2, () -> x.run());
        int[] due = {0, 2, -1, -1};
        for (int k = 0; k < due.length; k++) {
            int i = k;
            CHECKS.due("free(" + k + ")", due[k], () -> x.free(i));
        }
        for (int k : new int[] {-1, MIN, MAX}) {
            CHECKS.due("free(" + k + ")", -1, () -> x.free(k));
        }
        x.setAndTake(1, 1, X);
        CHECKS.due("free(0) as it was at run()", 0, () -> x.free(0));
        CHECKS.due("run()", -2, () -> x.run());
        CHECKS.due("free(0)", 2, () -> x.free(0));
        CHECKS.due("free(1)", -1, () -> x.free(1));
        x.setAndTake(2, 1, X + Z, 1, 0);
        CHECKS.due("run()", -1, () -> x.run());
        CHECKS.due("free(0) without a basis", 2, () -> x.free(0));
        x.setAndTake(3, 8, 0);
        CHECKS.due("run()", 0, () -> x.run());
        CHECKS.due("free(0) with 1 as a head", -1, () -> x.free(0));
        x.clear();
        CHECKS.due("run()", -2, () -> x.run());
        CHECKS.due("free(2)", 2, () -> x.free(2));
        x.clear();
        CHECKS.due("free(0) behind clear()", -1, () -> x.free(0));
    }

    private static void clear() {
        Counted x = new Counted(2);
        CHECKS.due("poly()", 0, () -> x.poly());
        x.setAndTake(0, 1, 2 * X, -1, 0);
        x.setAndTake(30, 1, Y);
        CHECKS.due("run()", 2, () -> x.run());
        x.clear();
        CHECKS.zerosAreUnknown("behind clear()", x);
        CHECKS.due("count(0)", 0, () -> x.count(0));
        CHECKS.due("count(1)", 0, () -> x.count(1));
        CHECKS.due("count(2)", 2, () -> x.count(2));
        CHECKS.no("polynomial 30 is 0", () -> x.term(30, 0, 1, Y));
        CHECKS.no("polynomial 0 is 0", () -> x.term(0, 0, 1, 0));
        CHECKS.due("run()", -2, () -> x.run());
        CHECKS.due("poly()", 0, () -> x.poly());
    }

    private static void count() {
        Counted x = new Counted(3);
        x.poly();
        x.poly();
        x.take(7);
        CHECKS.due("count(0)", 2, () -> x.count(0));
        CHECKS.due("count(1)", 1, () -> x.count(1));
        CHECKS.due("count(2)", 3, () -> x.count(2));
        for (int what : new int[] {-1, 3, MIN, MAX}) {
            CHECKS.due("count(" + what + ")", -1, () -> x.count(what));
        }
    }
}
