import java.util.ArrayList;
import java.util.List;
import java.util.Map;

/**
 * The document's words done one by one, without a thought of speed: what the class answers is
 * compared with this. Nothing here is shared with the class.
 */
final class Model {
    static final int P = 32003;
    final int n;
    final Sum[] polys = new Sum[40];
    int given;
    int taken;
    final List<Sum> list = new ArrayList<>();
    boolean known;
    List<Integer> frees = new ArrayList<>();
    List<Sum.Pow> left = new ArrayList<>();
    long[][] least;
    List<long[]> zeros = new ArrayList<>();
    List<Integer> counts = new ArrayList<>();

    Model(int n) {
        this.n = n < 1 ? 1 : n > 3 ? 3 : n;
        wipe();
    }

    private void wipe() {
        for (int i = 0; i < 40; i++) {
            polys[i] = new Sum();
        }
    }

    int poly() {
        if (given == 40) {
            throw new IllegalStateException();
        }
        polys[given] = new Sum();
        return given++;
    }

    boolean term(int p, long above, long below, int power) {
        index(p);
        int[] e = {power & 15, (power >> 4) & 15, (power >> 8) & 15};
        boolean such = power >= 0 && power < 4096;
        for (int l = 0; l < 3; l++) {
            such &= e[l] <= (l < n ? 9 : 0);
        }
        if (!such) {
            throw new IllegalArgumentException();
        }
        if (below % P == 0) {
            throw new ArithmeticException();
        }
        long number = Sum.mod(Sum.mod(above) * Sum.inverse(below));
        Sum.Pow pow = new Sum.Pow(e[0], e[1], e[2]);
        long before = polys[p].terms.getOrDefault(pow, 0L);
        polys[p].add(number - before, pow);
        return number != before;
    }

    boolean take(int p) {
        index(p);
        if (taken == 12) {
            return false;
        }
        taken++;
        if (!polys[p].isZero()) {
            list.add(polys[p].copy());
        }
        known = false;
        return true;
    }

    int run() {
        known = false;
        frees = new ArrayList<>();
        boolean one = false;
        for (Sum s : list) {
            one |= s.head().degree() == 0;
        }
        for (int l = 0; l < n; l++) {
            boolean alone = one;
            for (Sum s : list) {
                alone |= s.head().letter(l) > 0 && s.head().letter(l) == s.head().degree();
            }
            if (!alone) {
                frees.add(l);
            }
        }
        if (!isBasis(list)) {
            return -1;
        }
        if (!frees.isEmpty()) {
            return -2;
        }
        left = leftOf(list, n);
        if (left.size() > 16) {
            return -3;
        }
        findLeast();
        findZeros();
        known = true;
        return zeros.size();
    }

    int total() {
        state();
        return left.size();
    }

    int left(int k) {
        state();
        return k >= 0 && k < left.size() ? left.get(k).written() : -1;
    }

    int at(int zero, int letter) {
        state();
        zero(zero);
        letter(letter);
        return (int) zeros.get(zero)[letter];
    }

    int multiplicity(int zero) {
        state();
        zero(zero);
        return counts.get(zero);
    }

    int minimal(int letter, int exponent) {
        state();
        letter(letter);
        return exponent >= 0 && exponent < least[letter].length ? (int) least[letter][exponent] : 0;
    }

    int value(int p, int zero) {
        state();
        index(p);
        zero(zero);
        return (int) polys[p].value(zeros.get(zero));
    }

    int free(int k) {
        return k >= 0 && k < frees.size() ? frees.get(k) : -1;
    }

    void clear() {
        wipe();
        given = 0;
        taken = 0;
        list.clear();
        known = false;
        frees = new ArrayList<>();
    }

    int count(int what) {
        return what == 0 ? given : what == 1 ? taken : what == 2 ? n : -1;
    }

    private void state() {
        if (!known) {
            throw new IllegalStateException();
        }
    }

    private static void index(int p) {
        if (p < 0 || p > 39) {
            throw new IndexOutOfBoundsException();
        }
    }

    private void zero(int zero) {
        if (zero < 0 || zero >= zeros.size()) {
            throw new IndexOutOfBoundsException();
        }
    }

    private void letter(int letter) {
        if (letter < 0 || letter >= n) {
            throw new IllegalArgumentException();
        }
    }

    static Sum reduced(Sum sum, List<Sum> by) {
        Sum rest = sum.copy();
        Sum stays = new Sum();
        while (!rest.isZero()) {
            Sum.Pow head = rest.head();
            long number = rest.headNumber();
            Sum divider = null;
            for (Sum s : by) {
                if (divider == null && s.head().divides(head)) {
                    divider = s;
                }
            }
            if (divider == null) {
                stays.add(number, head);
                rest.add(-number, head);
            } else {
                long factor = number * Sum.inverse(divider.headNumber());
                rest = rest.plus(-factor, divider, head.over(divider.head()));
            }
        }
        return stays;
    }

    static Sum difference(Sum f, Sum g) {
        Sum.Pow both = f.head().join(g.head());
        return new Sum().plus(Sum.inverse(f.headNumber()), f, both.over(f.head()))
                .plus(-Sum.inverse(g.headNumber()), g, both.over(g.head()));
    }

    static boolean isBasis(List<Sum> of) {
        for (Sum f : of) {
            for (Sum g : of) {
                if (f != g && f.head().meets(g.head()) && !reduced(difference(f, g), of).isZero()) {
                    return false;
                }
            }
        }
        return true;
    }

    /** A basis with no more in it than needed; the steps are bounded, so it may be none. */
    static List<Sum> basisOf(List<Sum> from, int most) {
        List<Sum> list = new ArrayList<>(from);
        list.removeIf(Sum::isZero);
        for (int i = 1; i < list.size() && list.size() < most; i++) {
            for (int j = 0; j < i; j++) {
                Sum r = reduced(difference(list.get(i), list.get(j)), list);
                if (!r.isZero()) {
                    list.add(r);
                }
            }
        }
        List<Sum> kept = new ArrayList<>();
        for (int i = 0; i < list.size(); i++) {
            Sum.Pow head = list.get(i).head();
            boolean needed = true;
            for (int j = 0; j < list.size(); j++) {
                Sum.Pow other = list.get(j).head();
                needed &= j == i || !other.divides(head) || (other.equals(head) && j > i);
            }
            if (needed) {
                kept.add(list.get(i));
            }
        }
        return kept;
    }

    static List<Sum.Pow> leftOf(List<Sum> list, int n) {
        List<Sum.Pow> found = new ArrayList<>();
        for (int a = 0; a < 10; a++) {
            for (int b = 0; b < (n > 1 ? 10 : 1); b++) {
                for (int c = 0; c < (n > 2 ? 10 : 1); c++) {
                    Sum.Pow pow = new Sum.Pow(a, b, c);
                    if (list.stream().noneMatch(s -> s.head().divides(pow))) {
                        found.add(pow);
                    }
                }
            }
        }
        found.sort(null);
        return found;
    }

    private long[] vector(Sum sum) {
        Sum r = reduced(sum, list);
        long[] v = new long[left.size()];
        for (Map.Entry<Sum.Pow, Long> e : r.terms.entrySet()) {
            v[left.indexOf(e.getKey())] = e.getValue();
        }
        return v;
    }

    /** For each degree a system of equations of its own, up to the first that can be solved. */
    private void findLeast() {
        least = new long[n][];
        for (int l = 0; l < n; l++) {
            List<long[]> powers = new ArrayList<>();
            for (int d = 0; least[l] == null; d++) {
                long[] target = vector(Sum.of(1, Sum.letter(l, d)));
                least[l] = solve(powers, target);
                powers.add(target);
            }
        }
    }

    /** The monic combination that is 0, or null. */
    private static long[] solve(List<long[]> columns, long[] target) {
        int unknowns = columns.size();
        int rows = target.length;
        long[][] m = new long[rows][unknowns + 1];
        for (int r = 0; r < rows; r++) {
            for (int c = 0; c < unknowns; c++) {
                m[r][c] = columns.get(c)[r];
            }
            m[r][unknowns] = Sum.mod(-target[r]);
        }
        int rank = eliminate(m, unknowns);
        for (int r = rank; r < rows; r++) {
            if (m[r][unknowns] != 0) {
                return null;
            }
        }
        long[] result = new long[unknowns + 1];
        for (int c = 0; c < unknowns; c++) {
            // Those of lower degree don't hang on one another, so each has its own row.
            result[c] = m[c][unknowns];
        }
        result[unknowns] = 1;
        return result;
    }

    private static int eliminate(long[][] m, int columns) {
        int rank = 0;
        for (int c = 0; c < columns; c++) {
            int p = rank;
            while (p < m.length && m[p][c] == 0) {
                p++;
            }
            if (p == m.length) {
                continue;
            }
            long[] t = m[p];
            m[p] = m[rank];
            m[rank] = t;
            long inv = Sum.inverse(m[rank][c]);
            for (int k = 0; k < m[rank].length; k++) {
                m[rank][k] = m[rank][k] * inv % P;
            }
            for (int r = 0; r < m.length; r++) {
                long f = m[r][c];
                if (r != rank && f != 0) {
                    for (int k = 0; k < m[r].length; k++) {
                        m[r][k] = Sum.mod(m[r][k] - f * m[rank][k]);
                    }
                }
            }
            rank++;
        }
        return rank;
    }

    private List<Long> roots(int l) {
        List<Long> found = new ArrayList<>();
        if (l >= n) {
            found.add(0L);
            return found;
        }
        for (long x = 0; x < P; x++) {
            long v = 0;
            for (int e = least[l].length - 1; e >= 0; e--) {
                v = (v * x + least[l][e]) % P;
            }
            if (v == 0) {
                found.add(x);
            }
        }
        return found;
    }

    private void findZeros() {
        zeros = new ArrayList<>();
        counts = new ArrayList<>();
        List<Long> seconds = roots(1);
        List<Long> thirds = roots(2);
        for (long x : roots(0)) {
            for (long y : seconds) {
                for (long z : thirds) {
                    long[] at = {x, y, z};
                    if (list.stream().allMatch(s -> s.value(at) == 0)) {
                        zeros.add(at);
                    }
                }
            }
        }
        for (long[] zero : zeros) {
            counts.add(counted(zero));
        }
    }

    /** What is left beside all products of 16 factors, a letter less its number each. */
    private int counted(long[] zero) {
        int size = left.size();
        long[][][] factors = new long[n][size][];
        for (int l = 0; l < n; l++) {
            for (int k = 0; k < size; k++) {
                factors[l][k] = vector(Sum.letterLess(l, zero[l]).times(Sum.of(1, left.get(k))));
            }
        }
        List<long[]> products = new ArrayList<>();
        for (int k = 0; k < size; k++) {
            long[] unit = new long[size];
            unit[k] = 1;
            products.add(unit);
        }
        for (int factor = 0; factor < 16; factor++) {
            List<long[]> next = new ArrayList<>();
            for (long[] product : products) {
                for (int l = 0; l < n; l++) {
                    long[] v = new long[size];
                    for (int k = 0; k < size; k++) {
                        for (int j = 0; j < size; j++) {
                            v[j] = (v[j] + product[k] * factors[l][k][j]) % P;
                        }
                    }
                    next.add(v);
                }
            }
            long[][] m = next.toArray(new long[0][]);
            int rank = eliminate(m, size);
            products = new ArrayList<>(List.of(m).subList(0, rank));
        }
        return size - products.size();
    }
}
