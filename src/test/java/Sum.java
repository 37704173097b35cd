import java.util.Map;
import java.util.TreeMap;

/** A polynomial for the tests: a map from powers to numbers, with exponents of any size. */
final class Sum {
    static final long P = 32003;

    record Pow(int a, int b, int c) implements Comparable<Pow> {
        int degree() {
            return a + b + c;
        }

        int letter(int l) {
            return l == 0 ? a : l == 1 ? b : c;
        }

        Pow times(Pow o) {
            return new Pow(a + o.a, b + o.b, c + o.c);
        }

        Pow over(Pow o) {
            return new Pow(a - o.a, b - o.b, c - o.c);
        }

        boolean divides(Pow o) {
            return a <= o.a && b <= o.b && c <= o.c;
        }

        Pow join(Pow o) {
            return new Pow(Math.max(a, o.a), Math.max(b, o.b), Math.max(c, o.c));
        }

        boolean meets(Pow o) {
            return a * o.a + b * o.b + c * o.c > 0;
        }

        int written() {
            return a + 16 * b + 256 * c;
        }

        @Override
        public int compareTo(Pow o) {
            if (degree() != o.degree()) {
                return Integer.compare(degree(), o.degree());
            }
            if (a != o.a) {
                return Integer.compare(a, o.a);
            }
            return Integer.compare(b, o.b);
        }
    }

    static final Pow ONE = new Pow(0, 0, 0);
    final TreeMap<Pow, Long> terms = new TreeMap<>();

    static Pow letter(int l, int e) {
        return new Pow(l == 0 ? e : 0, l == 1 ? e : 0, l == 2 ? e : 0);
    }

    static Sum of(long number, Pow pow) {
        Sum s = new Sum();
        s.add(number, pow);
        return s;
    }

    /** From pairs of a number and a power as the document writes it. */
    static Sum ofPairs(long... pairs) {
        Sum s = new Sum();
        for (int i = 0; i + 1 < pairs.length; i += 2) {
            int power = (int) pairs[i + 1];
            s.add(pairs[i], new Pow(power & 15, (power >> 4) & 15, power >> 8));
        }
        return s;
    }

    static Sum letterLess(int l, long number) {
        return of(1, letter(l, 1)).plus(-number, of(1, ONE), ONE);
    }

    static long mod(long x) {
        return Math.floorMod(x, P);
    }

    static long inverse(long x) {
        long a = mod(x);
        long b = P;
        long u = 1;
        long v = 0;
        while (b != 0) {
            long q = a / b;
            long t = a - q * b;
            a = b;
            b = t;
            t = u - q * v;
            u = v;
            v = t;
        }
        return mod(u);
    }

    boolean isZero() {
        return terms.isEmpty();
    }

    Pow head() {
        return terms.lastKey();
    }

    long headNumber() {
        return terms.lastEntry().getValue();
    }

    void add(long number, Pow pow) {
        long sum = mod(terms.getOrDefault(pow, 0L) + mod(number));
        if (sum == 0) {
            terms.remove(pow);
        } else {
            terms.put(pow, sum);
        }
    }

    /** This and a number times a power times another one. */
    Sum plus(long number, Sum other, Pow shift) {
        Sum result = copy();
        for (Map.Entry<Pow, Long> e : other.terms.entrySet()) {
            result.add(mod(number) * e.getValue(), e.getKey().times(shift));
        }
        return result;
    }

    Sum times(Sum other) {
        Sum result = new Sum();
        for (Map.Entry<Pow, Long> e : other.terms.entrySet()) {
            result = result.plus(e.getValue(), this, e.getKey());
        }
        return result;
    }

    Sum copy() {
        Sum result = new Sum();
        result.terms.putAll(terms);
        return result;
    }

    long value(long[] at) {
        long sum = 0;
        for (Map.Entry<Pow, Long> e : terms.entrySet()) {
            long product = e.getValue();
            for (int l = 0; l < 3; l++) {
                for (int i = 0; i < e.getKey().letter(l); i++) {
                    product = product * at[l] % P;
                }
            }
            sum += product;
        }
        return mod(sum);
    }
}
