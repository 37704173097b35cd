import java.util.ArrayList;
import java.util.Collections;
import java.util.List;
import java.util.Map;
import java.util.Random;

/**
 * Many lists, most of them bases, are given both to the class and to the Model, and every answer of
 * both is compared. Always the same lists: the seed is fixed (or the first argument, with the number
 * of lists as the second).
 */
public final class ModelTest {
    private static final Checks CHECKS = new Checks();
    private static Random random;
    // What take(), run() and askAll need at most: the writing of a list ends where no more calls are left.
    private static final int CALLS_TO_ASK = 220;
    private static final int[] OUTCOMES = new int[20];
    private static int repeated;

    public static void main(String[] args) {
        long seed = args.length > 0 ? Long.parseLong(args[0]) : 20261115;
        int lists = args.length > 1 ? Integer.parseInt(args[1]) : 400;
        for (int i = 0; i < lists; i++) {
            random = new Random(seed * 1000003 + i);
            oneList("seed " + seed + " list " + i + ": ");
        }
        StringBuilder seen = new StringBuilder("run() answered");
        for (int i = 0; i < OUTCOMES.length; i++) {
            seen.append(' ').append(i - 3).append(':').append(OUTCOMES[i]);
        }
        System.out.println(seen + "; zeros that count more than once: " + repeated);
        CHECKS.end();
    }

    private static int below(int bound) {
        return random.nextInt(bound);
    }

    /** Small numbers often, so that zeros meet. */
    private static long number() {
        return below(3) == 0 ? below(32003) : below(5) - 2;
    }

    private static void oneList(String name) {
        int n = 1 + below(3);
        List<Sum> list = new ArrayList<>();
        switch (below(6)) {
            case 0 -> list.addAll(powersAlone(n));
            case 1 -> list.addAll(boxes(n));
            case 2, 3 -> list.addAll(turned(n));
            case 4 -> list.addAll(completed(n));
            default -> {
                for (int i = below(4); i >= 0; i--) {
                    list.add(any(n, 3, 4));
                }
            }
        }
        if (below(5) == 0) {
            disturb(list, n);
        }
        if (below(3) == 0) {
            addMultiples(list, n);
        }
        if (below(2) == 0) {
            Collections.shuffle(list, random);
        }
        if (below(4) == 0) {
            list.add(below(Math.max(1, list.size())), new Sum());
        }
        if (below(25) == 0) {
            list.add(Sum.of(1 + below(32002), Sum.ONE));
        }
        feed(name, n, list);
    }

    private static Sum any(int n, int degree, int terms) {
        Sum s = new Sum();
        for (int t = 0; t < terms; t++) {
            int[] e = new int[3];
            for (int d = below(degree + 1); d > 0; d--) {
                e[below(n)]++;
            }
            s.add(number(), new Sum.Pow(e[0], e[1], e[2]));
        }
        return s;
    }

    /** Heads without a common letter: always a basis. */
    private static List<Sum> powersAlone(int n) {
        int[][] sizes = {{0}, {9}, {4, 4}, {4, 2, 2}};
        List<Sum> list = new ArrayList<>();
        for (int l = 0; l < n; l++) {
            int e = n == 1 ? 1 + below(9) : 1 + below(sizes[n][0]);
            if (n == 3) {
                e = 1 + below(l == 0 ? 4 : 3);
            }
            Sum s = Sum.of(1, Sum.letter(l, e));
            if (below(2) == 0) {
                s = Sum.of(1, Sum.ONE);
                for (int i = 0; i < e; i++) {
                    s = s.times(Sum.letterLess(l, number()));
                }
            }
            if (below(3) > 0) {
                s = s.plus(number(), any(n, Math.max(0, e - 1), 3), Sum.ONE);
            }
            list.add(s);
        }
        return list;
    }

    /** Powers with each factor of a letter less by a number of its own: a basis with known zeros. */
    private static List<Sum> boxes(int n) {
        long[][] less = new long[3][10];
        for (long[] row : less) {
            for (int i = 0; i < 10; i++) {
                row[i] = number();
            }
        }
        List<Sum> list = new ArrayList<>();
        for (Sum.Pow pow : corners(n)) {
            Sum s = Sum.of(1, Sum.ONE);
            for (int l = 0; l < 3; l++) {
                for (int i = 0; i < pow.letter(l); i++) {
                    s = s.times(Sum.letterLess(l, less[l][i]));
                }
            }
            list.add(s);
        }
        return list;
    }

    private static List<Sum.Pow> corners(int n) {
        List<Sum.Pow> pows = new ArrayList<>();
        for (int l = 0; l < n; l++) {
            pows.add(Sum.letter(l, n == 1 ? 1 + below(9) : 1 + below(n == 2 ? 6 : 4)));
        }
        for (int i = below(6); i > 0 && n > 1; i--) {
            pows.add(new Sum.Pow(below(4), below(4), n > 2 ? below(3) : 0));
        }
        pows.removeIf(p -> p.degree() == 0);
        List<Sum.Pow> kept = new ArrayList<>();
        for (Sum.Pow p : pows) {
            if (pows.stream().noneMatch(q -> !q.equals(p) && q.divides(p)) && !kept.contains(p)) {
                kept.add(p);
            }
        }
        return kept;
    }

    /** Zeros of boxes behind a change of the letters, so that no letter tells them apart alone. */
    private static List<Sum> turned(int n) {
        Sum[] images = new Sum[3];
        for (int l = 0; l < 3; l++) {
            images[l] = Sum.of(1, Sum.letter(l, 1));
            for (int k = 0; k < l && l < n; k++) {
                images[l] = images[l].plus(number(), Sum.of(1, Sum.letter(k, 1)), Sum.ONE);
            }
        }
        List<Sum> list = new ArrayList<>();
        for (Sum s : boxes(n)) {
            Sum image = new Sum();
            for (Map.Entry<Sum.Pow, Long> e : s.terms.entrySet()) {
                Sum product = Sum.of(e.getValue(), Sum.ONE);
                for (int l = 0; l < 3; l++) {
                    for (int i = 0; i < e.getKey().letter(l); i++) {
                        product = product.times(images[l]);
                    }
                }
                image = image.plus(1, product, Sum.ONE);
            }
            list.add(image);
        }
        return basisOf(list, 60);
    }

    private static List<Sum> completed(int n) {
        List<Sum> list = new ArrayList<>();
        for (int i = 0; i < n + below(2); i++) {
            Sum s = any(n, 2, 4);
            if (!s.isZero()) {
                list.add(s);
            }
        }
        return basisOf(list, 40);
    }

    /** A basis of the same sums, as Model makes it; each in it is often reduced by the others. */
    private static List<Sum> basisOf(List<Sum> from, int most) {
        List<Sum> kept = Model.basisOf(from, most);
        if (below(2) == 0) {
            for (int i = 0; i < kept.size(); i++) {
                Sum s = kept.remove(i);
                kept.add(i, Model.reduced(s, kept));
            }
        }
        return kept;
    }

    private static void disturb(List<Sum> list, int n) {
        if (list.isEmpty()) {
            return;
        }
        int i = below(list.size());
        if (below(3) == 0) {
            list.remove(i);
        } else {
            list.set(i, list.get(i).plus(1, any(n, 2, 1), Sum.ONE));
        }
    }

    private static void addMultiples(List<Sum> list, int n) {
        for (int i = below(3); i >= 0 && !list.isEmpty(); i--) {
            Sum s = list.get(below(list.size()));
            Sum more = s.times(any(n, 1, 2)).plus(number(), list.get(below(list.size())), Sum.ONE);
            list.add(below(list.size() + 1), more);
        }
    }

    private static void feed(String name, int n, List<Sum> list) {
        Counted x = new Counted(n);
        Model m = new Model(n);
        if (below(4) == 0) {
            noise(name, x, m);
            x.clear();
            m.clear();
        }
        for (int i = 0; i < list.size() && i < 14; i++) {
            int p = below(40);
            if (!emptyOut(x, m, p) || !write(name, x, m, p, list.get(i))) {
                break;
            }
            ask(name + "take", () -> bit(m.take(p)), () -> bit(x.take(p)));
            if (below(8) == 0) {
                ask(name + "run", m::run, x::run);
            }
        }
        ask(name + "run", m::run, x::run);
        OUTCOMES[m.run() + 3]++;
        askAll(name, x, m);
        noise(name, x, m);
        if (x.callsLeft() > 0) {
            ask(name + "run", m::run, x::run);
        }
        askSome(name, x, m);
    }

    private static long bit(boolean b) {
        return b ? 1 : 0;
    }

    private static void ask(String what, Checks.Call model, Checks.Call asked) {
        CHECKS.same(what, Checks.outcome(model), Checks.outcome(asked));
    }

    /** Writes a list's polynomial in any order; false if that would leave too few calls to ask in. */
    private static boolean write(String name, Counted x, Model m, int p, Sum sum) {
        List<Sum.Pow> pows = new ArrayList<>(sum.terms.keySet());
        Collections.shuffle(pows, random);
        long factor = below(2) == 0 ? 1 : 1 + below(32002);
        for (Sum.Pow pow : pows) {
            if (x.callsLeft() < CALLS_TO_ASK) {
                return false;
            }
            if (pow.a() > 9 || pow.b() > 9 || pow.c() > 9) {
                continue;
            }
            long number = sum.terms.get(pow) * factor;
            int power = pow.written();
            if (below(4) == 0) {
                long other = number();
                ask(name + "term", () -> bit(m.term(p, other, 1, power)), () -> bit(x.term(p, other, 1, power)));
            }
            long under = 1 + below(32002);
            long above = number * under + 32003L * (below(7) - 3);
            ask(name + "term", () -> bit(m.term(p, above, under, power)),
                    () -> bit(x.term(p, above, under, power)));
        }
        return true;
    }

    private static boolean emptyOut(Counted x, Model m, int p) {
        for (Sum.Pow pow : new ArrayList<>(m.polys[p].terms.keySet())) {
            if (x.callsLeft() < CALLS_TO_ASK) {
                return false;
            }
            m.term(p, 0, 1, pow.written());
            x.term(p, 0, 1, pow.written());
        }
        return true;
    }

    /** All that can be asked of what run() found, each border with it. */
    private static void askAll(String name, Counted x, Model m) {
        ask(name + "total", m::total, x::total);
        int zeros = m.known ? m.zeros.size() : 0;
        for (int i = -1; i <= 17; i++) {
            int k = i;
            ask(name + "left " + k, () -> m.left(k), () -> x.left(k));
            for (int l = 0; l < m.n; l++) {
                int letter = l;
                ask(name + "minimal " + l + " " + k, () -> m.minimal(letter, k), () -> x.minimal(letter, k));
            }
        }
        for (int i = -1; i <= zeros; i++) {
            int zero = i;
            ask(name + "multiplicity " + i, () -> m.multiplicity(zero), () -> x.multiplicity(zero));
            for (int l = 0; l < m.n; l++) {
                int letter = l;
                ask(name + "at " + i + " " + l, () -> m.at(zero, letter), () -> x.at(zero, letter));
            }
            int p = below(42) - 1;
            ask(name + "value " + p + " " + i, () -> m.value(p, zero), () -> x.value(p, zero));
        }
        for (int l : new int[] {-1, m.n}) {
            ask(name + "minimal " + l + " 0", () -> m.minimal(l, 0), () -> x.minimal(l, 0));
            ask(name + "at 0 " + l, () -> m.at(0, l), () -> x.at(0, l));
        }
        for (int i = -1; i < 4; i++) {
            int k = i;
            ask(name + "free " + k, () -> m.free(k), () -> x.free(k));
            ask(name + "count " + k, () -> m.count(k), () -> x.count(k));
        }
        if (m.known) {
            repeated += (int) m.counts.stream().filter(c -> c > 1).count();
        }
    }

    /** As many questions as the object has calls left, up to a bound, each anything. */
    private static void askSome(String name, Counted x, Model m) {
        for (int i = 0; i < 60 && x.callsLeft() > 0; i++) {
            int a = below(20) - 2;
            int b = below(6) - 1;
            int p = below(42) - 1;
            switch (below(8)) {
                case 0 -> ask(name + "total", m::total, x::total);
                case 1 -> ask(name + "left " + a, () -> m.left(a), () -> x.left(a));
                case 2 -> ask(name + "at " + a + " " + b, () -> m.at(a, b), () -> x.at(a, b));
                case 3 -> ask(name + "multiplicity " + a, () -> m.multiplicity(a), () -> x.multiplicity(a));
                case 4 -> ask(name + "minimal " + b + " " + a, () -> m.minimal(b, a), () -> x.minimal(b, a));
                case 5 -> ask(name + "value " + p + " " + a, () -> m.value(p, a), () -> x.value(p, a));
                case 6 -> ask(name + "free " + b, () -> m.free(b), () -> x.free(b));
                default -> ask(name + "count " + b, () -> m.count(b), () -> x.count(b));
            }
        }
    }

    private static void noise(String name, Counted x, Model m) {
        for (int i = below(12); i > 0 && x.callsLeft() > 4; i--) {
            int p = below(44) - 2;
            int power = below(6) == 0 ? below(5000) - 100 : below(3) + 16 * below(3) + 256 * below(3);
            long above = below(4) == 0 ? random.nextLong() : number();
            long under = below(4) == 0 ? random.nextLong() : number();
            ask(name + "noise term", () -> bit(m.term(p, above, under, power)),
                    () -> bit(x.term(p, above, under, power)));
            if (below(10) == 0) {
                ask(name + "noise poly", m::poly, x::poly);
            }
            if (below(30) == 0) {
                ask(name + "noise take", () -> bit(m.take(p)), () -> bit(x.take(p)));
                ask(name + "total", m::total, x::total);
            }
        }
    }
}
