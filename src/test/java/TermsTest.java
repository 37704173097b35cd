import java.util.ArrayList;
import java.util.List;

/**
 * The words under "Terms" that say what run() finds, each against its own sentence and not against the
 * way in which the class finds it: reduced by the list in any order, zeros by a trial of all numbers,
 * counts from a basis of the larger list. The words that name borders are in the two border tests.
 */
public final class TermsTest {
    private static final Checks CHECKS = new Checks();
    private static final int P = 32003;
    private static final int X = 1;
    private static final int Y = 16;
    private static final int Z = 256;
    private static final String ZERO = "Terms: A ZERO is a row of numbers at which all in the LIST are 0";

    public static void main(String[] args) {
        anyOrderOfTheList();
        anyOrderOfNoBasis();
        lowerPowersToo();
        anyNumberAtTheHead();
        leastIsReducedToZero();
        zerosOfOneLetter();
        zerosOfTwoLetters();
        zerosOfThreeLetters();
        countsAreLeft();
        objectsAreTheirOwn();
        CHECKS.end();
    }

    private static Counted withList(int n, List<Sum> list) {
        Counted x = new Counted(n);
        for (int p = 0; p < list.size(); p++) {
            for (Sum.Pow pow : list.get(p).terms.keySet()) {
                x.set(p, list.get(p).terms.get(pow), pow.written());
            }
            x.setAndTake(p);
        }
        return x;
    }

    /** What run() answers and all that is known then, in one text. */
    private static String found(Counted x, int n) {
        int zeros = x.run();
        StringBuilder text = new StringBuilder("run " + zeros);
        for (int k = 0; k < n; k++) {
            text.append(" free ").append(x.free(k));
        }
        if (zeros < 0) {
            return text.toString();
        }
        text.append(" total ").append(x.total());
        for (int k = 0; k < x.total(); k++) {
            text.append(" left ").append(x.left(k));
        }
        for (int letter = 0; letter < n; letter++) {
            for (int exponent = 0; exponent <= 16; exponent++) {
                text.append(' ').append(x.minimal(letter, exponent));
            }
        }
        for (int zero = 0; zero < zeros; zero++) {
            for (int letter = 0; letter < n; letter++) {
                text.append(" at ").append(x.at(zero, letter));
            }
            text.append(" counts ").append(x.multiplicity(zero));
        }
        return text.toString();
    }

    private static List<List<Sum>> orders(List<Sum> list) {
        List<List<Sum>> all = new ArrayList<>();
        if (list.isEmpty()) {
            all.add(new ArrayList<>());
        }
        for (int first = 0; first < list.size(); first++) {
            List<Sum> rest = new ArrayList<>(list);
            Sum taken = rest.remove(first);
            for (List<Sum> order : orders(rest)) {
                order.add(0, taken);
                all.add(order);
            }
        }
        return all;
    }

    private static void anyOrderOfTheList() {
        CHECKS.sentence("Terms: taken off with a multiple of the first in the LIST whose head divides it");
        // The last two are sums of multiples of the others, so powers have up to four heads that divide them.
        List<Sum> list = List.of(Sum.ofPairs(1, 2 * X, -1, Y), Sum.ofPairs(2, X + Y, -2, 0),
                Sum.ofPairs(1, 2 * Y, -1, X), Sum.ofPairs(3, 2 * X + Y, 3, 2 * Y, -6, X),
                Sum.ofPairs(1, 3 * Y, -1, 0));
        StringBuilder due = new StringBuilder("run 1 free -1 free -1 total 3 left 0 left 16 left 1");
        for (int letter = 0; letter < 2; letter++) {
            for (int exponent = 0; exponent <= 16; exponent++) {
                due.append(exponent == 0 ? " 32002" : exponent == 3 ? " 1" : " 0");
            }
        }
        due.append(" at 1 at 1 counts 1");
        for (List<Sum> order : orders(list)) {
            CHECKS.same("one of 120 orders", due.toString(), found(withList(2, order), 2));
        }
    }

    private static void anyOrderOfNoBasis() {
        CHECKS.sentence("Terms: REDUCED by the LIST a polynomial is what comes of it (of no BASIS, in any order)");
        List<Sum> list = List.of(Sum.ofPairs(1, 2 * X, -1, Y), Sum.ofPairs(2, X + Y, -2, 0),
                Sum.ofPairs(1, 3 * X, -1, 0), Sum.ofPairs(1, 2 * X + Y, -1, X),
                Sum.ofPairs(1, 3 * Y, -1, 0));
        // y(xx - y) - x(xy - 1) is x - yy: no head divides its powers.
        for (List<Sum> order : orders(list)) {
            CHECKS.same("one of 120 orders", "run -1 free -1 free -1", found(withList(2, order), 2));
        }
    }

    private static void lowerPowersToo() {
        CHECKS.sentence("Terms: as long as a head in the LIST divides one of its powers");
        // xx is xy + yy: xy stays, and yy below it goes on to 1.
        Counted x = withList(2, List.of(Sum.ofPairs(1, 2 * X, -1, X + Y, -1, 2 * Y), Sum.ofPairs(1, 2 * Y, -1, 0)));
        CHECKS.dueTrue("zeros are known", x.run() >= 0);
        CHECKS.due("total()", 4, x::total);
        // x(x - y) = 1 with yy = 1, thus (xx - 1)(xx - 1) = xx.
        int[] due = {1, 0, P - 3, 0, 1, 0};
        for (int exponent = 0; exponent < due.length; exponent++) {
            int e = exponent;
            CHECKS.due("minimal(0, " + e + ")", due[e], () -> x.minimal(0, e));
        }
        // In the difference of a pair, too: xx + yy + 1 times y less xy times x is yyy + y.
        Sum first = Sum.ofPairs(1, 2 * X, 1, 2 * Y, 1, 0);
        Sum second = Sum.ofPairs(1, X + Y);
        CHECKS.due("yyy goes, y stays", -1, () -> withList(2, List.of(first, second, Sum.ofPairs(1, 3 * Y))).run());
        CHECKS.due("yyy stays", -1, () -> withList(2, List.of(first, second, Sum.ofPairs(1, 4 * Y, 1, 2 * Y))).run());
        CHECKS.dueTrue("both go",
                withList(2, List.of(first, second, Sum.ofPairs(1, 3 * Y, 1, Y))).run() >= 0);
    }

    private static void anyNumberAtTheHead() {
        CHECKS.sentence("Terms: the least one that both heads divide, with the same number there");
        for (long a : new long[] {1, 2, 16001, 32002}) {
            for (long b : new long[] {1, 3, 16002, 32001}) {
                for (long c : new long[] {1, 5, 32002}) {
                    Sum first = Sum.ofPairs(a, 2 * X, -a, Y);
                    Sum second = Sum.ofPairs(b, X + Y, -b, 0);
                    Sum third = Sum.ofPairs(c, 2 * Y, -c, X);
                    String name = "heads with " + a + ", " + b + ", " + c;
                    CHECKS.due(name, 1, () -> withList(2, List.of(first, second, third)).run());
                    CHECKS.due(name + ", not a basis", -1, () -> withList(2, List.of(first, second)).run());
                }
            }
        }
    }

    private static List<List<Sum>> someBases(int n) {
        if (n == 1) {
            // (x - 3)(x - 3)(x - 5) and xxxx + 1, which has no zero
            return List.of(List.of(Sum.ofPairs(1, 3, -11, 2, 39, 1, -45, 0)), List.of(Sum.ofPairs(1, 4, 1, 0)));
        }
        if (n == 2) {
            return List.of(
                    List.of(Sum.ofPairs(1, 2 * X, -1, Y), Sum.ofPairs(1, 2 * Y, -1, Y)),
                    List.of(Sum.ofPairs(1, 3 * X, -1, 2 * X), Sum.ofPairs(1, X + Y), Sum.ofPairs(1, 3 * Y, -1, 2 * Y)),
                    List.of(Sum.ofPairs(1, 2 * X, -6, X, 9, 0), Sum.ofPairs(1, 3 * Y, -1, 2 * Y, 4, X, -12, 0)),
                    List.of(Sum.ofPairs(1, 8 * Y, -1, X), Sum.ofPairs(1, 2 * X)));
        }
        return List.of(
                List.of(Sum.ofPairs(1, 2 * X, -1, Y), Sum.ofPairs(1, 2 * Y, -1, Z), Sum.ofPairs(1, 2 * Z, -1, Z)),
                List.of(Sum.ofPairs(1, 2 * X), Sum.ofPairs(1, X + Y), Sum.ofPairs(1, X + Z), Sum.ofPairs(1, 2 * Y),
                        Sum.ofPairs(1, Y + Z), Sum.ofPairs(1, 2 * Z, -1, Z)));
    }

    private static void leastIsReducedToZero() {
        CHECKS.sentence("Terms: the LEAST POLYNOMIAL of a letter is in it alone, of the lowest degree, REDUCED to 0");
        for (int n = 1; n <= 3; n++) {
            for (List<Sum> list : someBases(n)) {
                for (int letter = 0; letter < n; letter++) {
                    leastIsReducedToZero(n, list, letter);
                }
            }
        }
    }

    /** What is reduced to 0 leaves a basis as it is when it is taken too; what isn't makes it another one. */
    private static void leastIsReducedToZero(int n, List<Sum> list, int letter) {
        Counted x = withList(n, list);
        String before = found(x, n);
        Sum least = new Sum();
        for (int exponent = 0; exponent <= 16; exponent++) {
            least.add(x.minimal(letter, exponent), Sum.letter(letter, exponent));
        }
        String name = before + ": letter " + letter;
        CHECKS.due(name + ": number at the head", 1, least::headNumber);
        CHECKS.dueTrue(name + ": reduced", Model.reduced(least, list).isZero());
        int degree = least.head().degree();
        Sum lower = Sum.of(1, Sum.letter(letter, degree - 1));
        CHECKS.dueTrue(name + ": one lower", !Model.reduced(lower, list).isZero());
        if (degree <= 9) {
            List<Sum> more = new ArrayList<>(list);
            more.add(least);
            CHECKS.same(name + ": taken too", before, found(withList(n, more), n));
            more.set(list.size(), lower);
            CHECKS.dueTrue(name + ": one lower taken too", !before.equals(found(withList(n, more), n)));
        }
    }

    private static void sameZeros(String name, int n, List<Sum> list, List<int[]> due) {
        Counted x = withList(n, list);
        CHECKS.due(name + ": run()", due.size(), x::run);
        for (int zero = 0; zero < due.size(); zero++) {
            for (int letter = 0; letter < n; letter++) {
                int z = zero;
                int l = letter;
                CHECKS.due(name + ": at(" + z + ", " + l + ")", due.get(z)[l], () -> x.at(z, l));
            }
        }
    }

    private static void zerosOfOneLetter() {
        CHECKS.sentence(ZERO + " (of one letter, by a trial of all numbers)");
        for (int i = 0; i < 60; i++) {
            Sum sum = Sum.of(1 + i, Sum.ONE);
            int degree = 0;
            while (degree < 1 + i % 9) {
                // Here and there a number comes twice, and here and there there may be none for two degrees.
                boolean two = degree % 3 == 1 && degree < i % 9;
                sum = sum.times(two ? Sum.ofPairs(1, 2, i, 1, degree, 0) : Sum.letterLess(0, i * degree % 5 * 4001));
                degree += two ? 2 : 1;
            }
            List<int[]> due = new ArrayList<>();
            for (int number = 0; number < P; number++) {
                if (sum.value(new long[] {number, 0, 0}) == 0) {
                    due.add(new int[] {number});
                }
            }
            sameZeros("list " + i, 1, List.of(sum), due);
        }
    }

    /** The numbers of a sum at each number of a letter where the other letters are 0. */
    private static int[] alongLetter(Sum sum, int letter) {
        int[] numbers = new int[P];
        long[] at = new long[3];
        for (int number = 0; number < P; number++) {
            at[letter] = number;
            numbers[number] = (int) sum.value(at);
        }
        return numbers;
    }

    /** Two sums whose powers have one of two letters each: the pairs of numbers at which both are 0. */
    private static List<int[]> pairsByTrial(Sum one, Sum other, int firstLetter, int secondLetter) {
        int[] oneFirst = alongLetter(one, firstLetter);
        int[] otherFirst = alongLetter(other, firstLetter);
        int[] oneSecond = alongLetter(one, secondLetter);
        int[] otherSecond = alongLetter(other, secondLetter);
        for (int number = P - 1; number >= 0; number--) {
            // The number without a letter is in both rows; what stands here makes it 0 with the first.
            oneSecond[number] = Math.floorMod(oneFirst[0] - oneSecond[number], P);
            otherSecond[number] = Math.floorMod(otherFirst[0] - otherSecond[number], P);
        }
        List<int[]> pairs = new ArrayList<>();
        for (int first = 0; first < P; first++) {
            for (int second = 0; second < P; second++) {
                if (oneFirst[first] == oneSecond[second] && otherFirst[first] == otherSecond[second]) {
                    pairs.add(new int[] {first, second});
                }
            }
        }
        return pairs;
    }

    private static void zerosOfTwoLetters() {
        CHECKS.sentence(ZERO + " (of two letters, by a trial of all pairs)");
        List<List<Sum>> lists = List.of(
                List.of(Sum.ofPairs(1, 2 * X, -1, Y), Sum.ofPairs(1, 2 * Y, -5, X, 4, 0)),
                List.of(Sum.ofPairs(7, 4 * X, -35, 2 * X, 28, 0), Sum.ofPairs(1, 4 * Y, -1, 3 * X, -2, X, 3, 0)),
                List.of(Sum.ofPairs(1, 3 * X, -6, 2 * Y, 11, X, -6, 0), Sum.ofPairs(2, 3 * Y, -8, Y)));
        for (int i = 0; i < lists.size(); i++) {
            List<Sum> list = lists.get(i);
            List<int[]> due = pairsByTrial(list.get(0), list.get(1), 0, 1);
            CHECKS.dueTrue("list " + i + " has zeros, as it is made", due.size() > 1);
            sameZeros("list " + i, 2, list, due);
        }
    }

    private static void zerosOfThreeLetters() {
        CHECKS.sentence(ZERO + " (of three letters, the first of which one in the LIST tells)");
        Sum first = Sum.ofPairs(1, X, -2, Y, 3, Z, -5, 0);
        Sum second = Sum.ofPairs(1, 3 * Y, -4, Y, 1, 2 * Z, -1, Z);
        Sum third = Sum.ofPairs(1, 4 * Z, -2, 3 * Z, -1, 2 * Z, 2, Z);
        List<int[]> due = new ArrayList<>();
        for (int[] pair : pairsByTrial(second, third, 1, 2)) {
            due.add(new int[] {Math.floorMod(2 * pair[0] - 3 * pair[1] + 5, P), pair[0], pair[1]});
        }
        due.sort((a, b) -> a[0] != b[0] ? a[0] - b[0] : a[1] != b[1] ? a[1] - b[1] : a[2] - b[2]);
        CHECKS.dueTrue("more than six zeros, as the list is made", due.size() > 6);
        sameZeros("three letters", 3, List.of(third, first, second), due);
    }

    private static void countsAreLeft() {
        CHECKS.sentence("Terms: It COUNTS as often as this has powers LEFT: a BASIS of all sums of products of"
                + " those in the LIST, and of all products of 16 factors");
        for (int n = 1; n <= 3; n++) {
            for (List<Sum> list : someBases(n)) {
                Counted x = withList(n, list);
                int zeros = x.run();
                for (int zero = 0; zero < zeros; zero++) {
                    long[] at = new long[3];
                    for (int letter = 0; letter < n; letter++) {
                        at[letter] = x.at(zero, letter);
                    }
                    List<Sum> larger = withProductsOf16(n, list, at);
                    String name = n + " letters, " + list.size() + " in the list, zero " + zero;
                    int k = zero;
                    CHECKS.due(name, Model.leftOf(larger, n).size(), () -> x.multiplicity(k));
                    Counted y = withList(n, larger);
                    CHECKS.due(name + ": run() of the larger list", 1, y::run);
                    CHECKS.due(name + ": total() of it", x.multiplicity(zero), y::total);
                    CHECKS.due(name + ": multiplicity(0) of it", x.multiplicity(zero), () -> y.multiplicity(0));
                }
            }
        }
    }

    private static List<Sum> withProductsOf16(int n, List<Sum> list, long[] zero) {
        List<Sum> larger = list;
        for (int a = 0; a <= 16; a++) {
            for (int b = 0; a + b <= 16; b++) {
                int[] times = {a, b, 16 - a - b};
                boolean ofThese = (n > 1 || times[1] == 0) && (n > 2 || times[2] == 0);
                if (!ofThese) {
                    continue;
                }
                Sum product = Sum.of(1, Sum.ONE);
                for (int letter = 0; letter < n; letter++) {
                    for (int i = 0; i < times[letter]; i++) {
                        product = product.times(Sum.letterLess(letter, zero[letter]));
                    }
                }
                Sum more = Model.reduced(product, larger);
                if (!more.isZero()) {
                    larger = new ArrayList<>(larger);
                    larger.add(more);
                    larger = Model.basisOf(larger, 60);
                }
            }
        }
        return larger;
    }

    private static void objectsAreTheirOwn() {
        CHECKS.sentence("1: A new object (what it holds is its own)");
        Counted x = withList(2, someBases(2).get(0));
        Counted y = withList(2, someBases(2).get(1));
        Counted fresh = new Counted(2);
        String ofX = found(x, 2);
        String ofY = found(y, 2);
        CHECKS.dueTrue("two lists", !ofX.equals(ofY));
        y.clear();
        CHECKS.same("behind another one's run() and clear()", ofX, found(x, 2));
        CHECKS.due("a new one, count(0)", 0, () -> fresh.count(0));
        CHECKS.due("a new one, count(1)", 0, () -> fresh.count(1));
        CHECKS.no("a new one, its first polynomial is 0", () -> fresh.term(0, 0, 1, 2 * X));
        CHECKS.zerosAreUnknown("of a new one", fresh);
    }
}
