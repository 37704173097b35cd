import java.util.Arrays;

/**
 * Common zeros of polynomials that are a basis: powers that are left, each letter's least
 * polynomial among them, all zeros with numbers of the field, how often each counts.
 */
public final class SolutionBoxes {
    private static final int NUMBERS = 32003;
    private static final int MOST_LETTERS = 3;
    private static final int MOST_EXPONENT = 9;
    private static final int POLYNOMIALS = 40;
    private static final int MOST_TAKEN = 12;
    private static final int MOST_LEFT = 16;
    private static final int NOT_A_BASIS = -1;
    private static final int NOT_FINITE = -2;
    private static final int TOO_MANY_LEFT = -3;

    private final int letters;
    private final Polynomial[] polynomials = new Polynomial[POLYNOMIALS];
    private final TakenList list = new TakenList();
    private final int[] freeLetters = new int[MOST_LETTERS];
    private int given;
    private int taken;
    private int freeCount;
    private boolean answered;
    private int answer;
    private Solver solver;

    public SolutionBoxes(int n) {
        letters = Math.max(1, Math.min(MOST_LETTERS, n));
        for (int p = 0; p < POLYNOMIALS; p++) {
            polynomials[p] = new Polynomial();
        }
    }

    public int poly() throws IllegalStateException {
        if (given < 0 || given >= POLYNOMIALS) {
            throw new IllegalStateException("40 polynomials were given");
        }
        polynomials[given].setZero();
        given++;
        return given - 1;
    }

    public boolean term(int p, long above, long below, int power)
            throws IndexOutOfBoundsException, IllegalArgumentException, ArithmeticException {
        Polynomial polynomial = polynomialOf(p);
        int key = Power.keyOf(power, letters);
        if (key < 0) {
            throw new IllegalArgumentException("no such power");
        }
        int divisor = numberOf(below);
        if (divisor == 0) {
            throw new ArithmeticException("below is 0 modulo 32003");
        }
        return polynomial.put(key, numberOf(above) * inverse(divisor) % NUMBERS);
    }

    public boolean take(int p) throws IndexOutOfBoundsException {
        Polynomial polynomial = polynomialOf(p);
        if (taken >= MOST_TAKEN) {
            return false;
        }
        taken++;
        list.add(polynomial);
        answered = false;
        return true;
    }

    public int run() {
        if (!answered) {
            if (solver == null) {
                solver = new Solver(letters);
            }
            noteFreeLetters();
            answer = solver.solve(list);
            answered = true;
        }
        return answer;
    }

    public int total() throws IllegalStateException {
        return known().quotient.size;
    }

    public int left(int k) throws IllegalStateException {
        Quotient quotient = known().quotient;
        return k < 0 || k >= quotient.size ? -1 : Power.written(quotient.keys[k]);
    }

    public int at(int zero, int letter)
            throws IllegalStateException, IndexOutOfBoundsException, IllegalArgumentException {
        int[] numbers = zeroOf(known(), zero);
        requireLetter(letter);
        return numbers[letter];
    }

    public int multiplicity(int zero) throws IllegalStateException, IndexOutOfBoundsException {
        Solver found = known();
        zeroOf(found, zero);
        return found.multiplicities[zero];
    }

    public int minimal(int letter, int exponent)
            throws IllegalStateException, IllegalArgumentException {
        Solver found = known();
        requireLetter(letter);
        return found.least[letter].numberAt(exponent);
    }

    public int value(int p, int zero) throws IllegalStateException, IndexOutOfBoundsException {
        Solver found = known();
        Polynomial polynomial = polynomialOf(p);
        int[] numbers = zeroOf(found, zero);
        for (int letter = 0; letter < MOST_LETTERS; letter++) {
            found.point.move(letter, numbers[letter]);
        }
        return polynomial.valueAt(found.point);
    }

    public int free(int k) {
        return k < 0 || k >= freeCount ? -1 : freeLetters[k];
    }

    public void clear() {
        for (int p = 0; p < POLYNOMIALS; p++) {
            polynomials[p].setZero();
        }
        list.size = 0;
        given = 0;
        taken = 0;
        freeCount = 0;
        answered = false;
    }

    public int count(int what) {
        switch (what) {
            case 0:
                return given;
            case 1:
                return taken;
            case 2:
                return letters;
            default:
                return -1;
        }
    }

    private Polynomial polynomialOf(int p) {
        if (p < 0 || p >= POLYNOMIALS) {
            throw new IndexOutOfBoundsException("no such polynomial");
        }
        return polynomials[p];
    }

    private void requireLetter(int letter) {
        if (letter < 0 || letter >= letters) {
            throw new IllegalArgumentException("no such letter");
        }
    }

    private Solver known() {
        if (!answered || answer < 0 || solver == null) {
            throw new IllegalStateException("zeros aren't known");
        }
        return solver;
    }

    private static int[] zeroOf(Solver found, int zero) {
        if (zero < 0 || zero >= found.zeroCount) {
            throw new IndexOutOfBoundsException("no such zero");
        }
        return found.zeros[zero];
    }

    private void noteFreeLetters() {
        freeCount = 0;
        for (int letter = 0; letter < letters; letter++) {
            if (!list.bounds(letter)) {
                freeLetters[freeCount] = letter;
                freeCount++;
            }
        }
    }

    /** The number of the field; the product of two of these and a third one fit an int. */
    private static int numberOf(long any) {
        return (int) Math.floorMod(any, (long) NUMBERS);
    }

    /** 1 through a number that isn't 0: its 32001st power. */
    private static int inverse(int number) {
        int result = 1;
        int square = number;
        for (int exponent = NUMBERS - 2; exponent > 0; exponent >>= 1) {
            if ((exponent & 1) == 1) {
                result = result * square % NUMBERS;
            }
            square = square * square % NUMBERS;
        }
        return result;
    }

    /**
     * Powers as keys: the degree, the exponents of letters 0 and 1, five bits for each of these two.
     * So the greater key is the power above, and keys add where powers multiply: no degree that
     * comes up is over 27, thus no exponent runs over its bits.
     */
    private static final class Power {
        static final int BITS = 5;
        static final int MASK = 31;
        // The keys of letters 0, 1 and 2 themselves: 1024 for the degree, 32 or 1 for the exponent.
        static final int[] LETTER_KEYS = {1056, 1025, 1024};

        static int key(int first, int second, int third) {
            return ((first + second + third) << (2 * BITS)) | (first << BITS) | second;
        }

        static int degree(int key) {
            return key >> (2 * BITS);
        }

        static int exponent(int key, int letter) {
            int first = (key >> BITS) & MASK;
            int second = key & MASK;
            if (letter == 0) {
                return first;
            }
            return letter == 1 ? second : (key >> (2 * BITS)) - first - second;
        }

        /** The key of a power as the document writes it, -1 if there is no such power. */
        static int keyOf(int power, int letters) {
            if (power < 0 || (power >> (4 * letters)) != 0) {
                return -1;
            }
            int first = power & 15;
            int second = (power >> 4) & 15;
            int third = power >> 8;
            boolean fits = first <= MOST_EXPONENT && second <= MOST_EXPONENT && third <= MOST_EXPONENT;
            return fits ? key(first, second, third) : -1;
        }

        /** A power as the document writes it. */
        static int written(int key) {
            return exponent(key, 0) + 16 * exponent(key, 1) + 256 * exponent(key, 2);
        }

        static boolean divides(int key, int other) {
            int first = ((other >> BITS) & MASK) - ((key >> BITS) & MASK);
            int second = (other & MASK) - (key & MASK);
            int third = (other >> (2 * BITS)) - (key >> (2 * BITS)) - first - second;
            return first >= 0 && second >= 0 && third >= 0;
        }

        static int leastMultiple(int key, int other) {
            return key(Math.max(exponent(key, 0), exponent(other, 0)),
                    Math.max(exponent(key, 1), exponent(other, 1)),
                    Math.max(exponent(key, 2), exponent(other, 2)));
        }

        static boolean shareLetter(int key, int other) {
            // The least multiple is the product just if no letter is in both.
            return leastMultiple(key, other) != key + other;
        }

        static boolean isOf(int key, int letters) {
            return (letters > 1 || exponent(key, 1) == 0) && (letters > 2 || exponent(key, 2) == 0);
        }

        /** How many powers of three letters are below this one. */
        static int place(int key) {
            int degree = key >> (2 * BITS);
            int first = (key >> BITS) & MASK;
            int lowerDegrees = degree * (degree + 1) * (degree + 2) / 6;
            return lowerDegrees + first * (degree + 1) - first * (first - 1) / 2 + (key & MASK);
        }
    }

    /** A row of numbers and their powers up to the exponent 9, for values of polynomials. */
    private static final class Point {
        private final int[] numbers = new int[MOST_LETTERS];
        private final int[][] powers = new int[MOST_LETTERS][MOST_EXPONENT + 1];

        void move(int letter, int number) {
            if (letter < 0 || letter >= MOST_LETTERS) {
                return;
            }
            numbers[letter] = number;
            powers[letter][0] = 1;
            for (int e = 1; e <= MOST_EXPONENT; e++) {
                powers[letter][e] = powers[letter][e - 1] * number % NUMBERS;
            }
        }

        int number(int letter) {
            return letter < 0 || letter >= MOST_LETTERS ? 0 : numbers[letter];
        }

        int powerValue(int key) {
            int product = 1;
            for (int letter = 0; letter < MOST_LETTERS; letter++) {
                int e = Power.exponent(key, letter);
                if (e > 0 && e <= MOST_EXPONENT) {
                    product = product * powers[letter][e] % NUMBERS;
                }
            }
            return product;
        }
    }

    /** A polynomial: its powers from the head down, and the numbers at them, none of which is 0. */
    private static final class Polynomial {
        private int[] keys = new int[4];
        private int[] numbers = new int[4];
        private int size;

        void setZero() {
            size = 0;
        }

        boolean put(int key, int number) {
            int spot = 0;
            while (spot < size && keys[spot] > key) {
                spot++;
            }
            boolean present = spot < size && keys[spot] == key;
            int before = present ? numbers[spot] : 0;
            if (before == number) {
                return false;
            }
            if (!present) {
                makeRoom(spot);
                keys[spot] = key;
                numbers[spot] = number;
            } else if (number == 0) {
                closeUp(spot);
            } else {
                numbers[spot] = number;
            }
            return true;
        }

        private void makeRoom(int spot) {
            if (size == keys.length) {
                keys = Arrays.copyOf(keys, 2 * size);
                numbers = Arrays.copyOf(numbers, 2 * size);
            }
            for (int i = size; i > spot; i--) {
                keys[i] = keys[i - 1];
                numbers[i] = numbers[i - 1];
            }
            size++;
        }

        private void closeUp(int spot) {
            size--;
            for (int i = spot; i < size; i++) {
                keys[i] = keys[i + 1];
                numbers[i] = numbers[i + 1];
            }
        }

        /** Becomes the other one over its number at the head. */
        void becomeMonic(Polynomial other) {
            if (keys.length < other.size) {
                keys = new int[other.size];
                numbers = new int[other.size];
            }
            size = other.size;
            int factor = size > 0 ? inverse(other.numbers[0]) : 1;
            for (int i = 0; i < size; i++) {
                keys[i] = other.keys[i];
                numbers[i] = other.numbers[i] * factor % NUMBERS;
            }
        }

        int valueAt(Point point) {
            int sum = 0;
            for (int i = 0; i < size; i++) {
                sum = (sum + numbers[i] * point.powerValue(keys[i])) % NUMBERS;
            }
            return sum;
        }
    }

    /** The LIST, each in it monic: what the document asks of it doesn't hang on the factor. */
    private static final class TakenList {
        private final Polynomial[] members = new Polynomial[MOST_TAKEN];
        private final int[] heads = new int[MOST_TAKEN];
        private int size;

        TakenList() {
            for (int i = 0; i < MOST_TAKEN; i++) {
                members[i] = new Polynomial();
            }
        }

        void add(Polynomial polynomial) {
            if (polynomial.size > 0 && size < MOST_TAKEN) {
                members[size].becomeMonic(polynomial);
                heads[size] = polynomial.keys[0];
                size++;
            }
        }

        /** The first whose head divides a power, -1 if there is none. */
        int firstDividing(int key) {
            for (int i = 0; i < size; i++) {
                if (Power.divides(heads[i], key)) {
                    return i;
                }
            }
            return -1;
        }

        /** Whether a head is a power of this letter alone, or 1. */
        boolean bounds(int letter) {
            for (int i = 0; i < size; i++) {
                if (Power.exponent(heads[i], letter) == Power.degree(heads[i])) {
                    return true;
                }
            }
            return false;
        }

        boolean isFinite(int letters) {
            for (int letter = 0; letter < letters; letter++) {
                if (!bounds(letter)) {
                    return false;
                }
            }
            return true;
        }

        boolean vanishesAt(Point point) {
            for (int i = 0; i < size; i++) {
                if (members[i].valueAt(point) != 0) {
                    return false;
                }
            }
            return true;
        }
    }

    /** Reduces by the LIST in a row that has a place for each power; between calls it is all 0. */
    private static final class Reducer {
        private final int[] row;
        private final int[] keys;

        Reducer(int letters) {
            // Nothing gets above the least multiple of two heads, and no step raises the degree.
            int mostDegree = MOST_EXPONENT * letters;
            int places = (mostDegree + 1) * (mostDegree + 2) * (mostDegree + 3) / 6;
            row = new int[places];
            keys = new int[places];
            int place = 0;
            for (int degree = 0; degree <= mostDegree; degree++) {
                for (int first = 0; first <= degree; first++) {
                    for (int second = 0; first + second <= degree && place < places; second++) {
                        keys[place] = Power.key(first, second, degree - first - second);
                        place++;
                    }
                }
            }
        }

        boolean isBasis(TakenList list) {
            for (int i = 0; i < list.size; i++) {
                for (int j = i + 1; j < list.size; j++) {
                    if (Power.shareLetter(list.heads[i], list.heads[j]) && !pairVanishes(list, i, j)) {
                        return false;
                    }
                }
            }
            return true;
        }

        private boolean pairVanishes(TakenList list, int i, int j) {
            int multiple = Power.leastMultiple(list.heads[i], list.heads[j]);
            addMultiple(list.members[i], 1, multiple - list.heads[i]);
            addMultiple(list.members[j], NUMBERS - 1, multiple - list.heads[j]);
            int top = Power.place(multiple);
            boolean vanishes = reduce(list, top, true);
            wipe(top);
            return vanishes;
        }

        /** Writes what a power is reduced to, as numbers at the powers that are left. */
        void writeReduced(TakenList list, int key, Quotient quotient, int[] into) {
            int top = Power.place(key);
            if (top < 0 || top >= row.length) {
                return;
            }
            row[top] = 1;
            reduce(list, top, false);
            for (int k = 0; k < quotient.size; k++) {
                int place = Power.place(quotient.keys[k]);
                into[k] = place < 0 || place >= row.length ? 0 : row[place];
            }
            wipe(top);
        }

        /** Whether nothing is left; if only that is asked, it ends at the first power that stays. */
        private boolean reduce(TakenList list, int top, boolean untilOneStays) {
            boolean vanishes = true;
            for (int place = Math.min(top, row.length - 1); place >= 0; place--) {
                if (row[place] == 0) {
                    continue;
                }
                int divider = list.firstDividing(keys[place]);
                if (divider >= 0) {
                    int shift = keys[place] - list.heads[divider];
                    addMultiple(list.members[divider], NUMBERS - row[place], shift);
                } else if (untilOneStays) {
                    return false;
                } else {
                    vanishes = false;
                }
            }
            return vanishes;
        }

        private void addMultiple(Polynomial polynomial, int factor, int shift) {
            for (int i = 0; i < polynomial.size; i++) {
                int place = Power.place(polynomial.keys[i] + shift);
                if (place >= 0 && place < row.length) {
                    row[place] = (row[place] + polynomial.numbers[i] * factor) % NUMBERS;
                }
            }
        }

        private void wipe(int top) {
            for (int place = Math.min(top, row.length - 1); place >= 0; place--) {
                row[place] = 0;
            }
        }
    }

    /** Rows of numbers that don't hang on one another, each with a 1 where all later ones have 0. */
    private static final class Span {
        private final int[][] rows;
        private final int[] pivots;
        private int size;

        Span(int mostRows, int width) {
            rows = new int[mostRows][width];
            pivots = new int[mostRows];
        }

        /**
         * Takes off from a row what the rows here give of its first numbers, as many as said, and
         * keeps a copy of it if that leaves one of these; whether it does.
         */
        boolean add(int[] row, int first) {
            for (int r = 0; r < size; r++) {
                takeOff(row, r);
            }
            for (int pivot = 0; pivot < first && pivot < row.length; pivot++) {
                if (row[pivot] != 0) {
                    keep(row, pivot);
                    return true;
                }
            }
            return false;
        }

        private void takeOff(int[] row, int r) {
            int factor = pivots[r] < row.length ? row[pivots[r]] : 0;
            if (factor == 0) {
                return;
            }
            int[] other = rows[r];
            for (int k = 0; k < row.length && k < other.length; k++) {
                row[k] = (row[k] + (NUMBERS - factor) * other[k]) % NUMBERS;
            }
        }

        private void keep(int[] row, int pivot) {
            if (size >= rows.length) {
                return;
            }
            int factor = inverse(row[pivot]);
            int[] other = rows[size];
            for (int k = 0; k < row.length && k < other.length; k++) {
                other[k] = row[k] * factor % NUMBERS;
            }
            pivots[size] = pivot;
            size++;
        }
    }

    /** Sums of numbers times the powers that are left, and how letters multiply them. */
    private static final class Quotient {
        private final int letters;
        private final int[] keys = new int[MOST_LEFT];
        private int size;
        // Row MOST_LEFT * letter + k: what the letter times the k-th power is reduced to.
        private final int[][] products = new int[MOST_LETTERS * MOST_LEFT][MOST_LEFT];
        // The k-th power, but for the first, is lowerLetter[k] times the lower[k]-th.
        private final int[] lower = new int[MOST_LEFT];
        private final int[] lowerLetter = new int[MOST_LEFT];
        private final int[][] multiples = new int[MOST_LEFT][MOST_LEFT];
        private final int[] factor = new int[MOST_LEFT];
        private final int[] next = new int[MOST_LEFT];
        private final int[] relation = new int[2 * MOST_LEFT + 1];
        private final Span relations = new Span(MOST_LEFT, 2 * MOST_LEFT + 1);
        private final Span ideal = new Span(MOST_LEFT, MOST_LEFT);

        Quotient(int letters) {
            this.letters = letters;
        }

        /** Finds the powers that are left, the lowest first; false if there are over 16. */
        boolean collect(TakenList list, Reducer reducer) {
            size = 0;
            int reached = -1;
            for (int place = 0; place < reducer.keys.length; place++) {
                int key = reducer.keys[place];
                // What divides a power that is left is left too, so behind a degree without any
                // there are none.
                if (Power.degree(key) > reached + 1) {
                    return true;
                }
                if (!Power.isOf(key, letters) || list.firstDividing(key) >= 0) {
                    continue;
                }
                if (size >= MOST_LEFT) {
                    return false;
                }
                keys[size] = key;
                size++;
                reached = Power.degree(key);
            }
            return true;
        }

        void findProducts(TakenList list, Reducer reducer) {
            for (int letter = 0; letter < letters; letter++) {
                for (int k = 0; k < size; k++) {
                    int key = keys[k] + Power.LETTER_KEYS[letter];
                    reducer.writeReduced(list, key, this, products[MOST_LEFT * letter + k]);
                    noteLower(key, k, letter);
                }
            }
        }

        private void noteLower(int key, int k, int letter) {
            for (int other = 0; other < size; other++) {
                if (keys[other] == key) {
                    lower[other] = k;
                    lowerLetter[other] = letter;
                }
            }
        }

        private void multiply(int letter, int[] from, int[] into) {
            for (int j = 0; j < size; j++) {
                long sum = 0;
                for (int k = 0; k < size; k++) {
                    sum += (long) from[k] * products[MOST_LEFT * letter + k][j];
                }
                into[j] = (int) (sum % NUMBERS);
            }
        }

        private void setOne(int[] sum) {
            Arrays.fill(sum, 0);
            if (size > 0) {
                sum[0] = 1;
            }
        }

        /** The least polynomial: the first power of the letter that hangs on those ahead of it. */
        void findLeast(int letter, OneLetter least) {
            relations.size = 0;
            setOne(factor);
            for (int exponent = 0; exponent <= size; exponent++) {
                Arrays.fill(relation, 0);
                System.arraycopy(factor, 0, relation, 0, size);
                relation[MOST_LEFT + exponent] = 1;
                if (!relations.add(relation, size)) {
                    least.assign(relation, MOST_LEFT, exponent);
                    return;
                }
                multiply(letter, factor, next);
                System.arraycopy(next, 0, factor, 0, size);
            }
        }

        /**
         * How often a zero counts. Of the products of 16 factors the powers of one of them are
         * enough: away from the zero one of these is a unit, and at it all products of as many
         * factors as powers are left are 0 anyway.
         */
        int multiplicityAt(int[] zero) {
            ideal.size = 0;
            for (int letter = 0; letter < letters && letter < zero.length; letter++) {
                setOne(factor);
                for (int times = 0; times < size; times++) {
                    multiply(letter, factor, next);
                    for (int k = 0; k < size; k++) {
                        factor[k] = (next[k] + (NUMBERS - zero[letter]) * factor[k]) % NUMBERS;
                    }
                }
                addMultiplesOfFactor();
            }
            return size - ideal.size;
        }

        private void addMultiplesOfFactor() {
            System.arraycopy(factor, 0, multiples[0], 0, size);
            for (int k = 1; k < size; k++) {
                multiply(lowerLetter[k], multiples[lower[k]], multiples[k]);
            }
            for (int k = 0; k < size; k++) {
                ideal.add(multiples[k], size);
            }
        }
    }

    /** A polynomial in one letter; numbers above its degree, which is -1 for 0, are 0. */
    private static final class OneLetter {
        private final int[] numbers = new int[2 * MOST_LEFT + 1];
        private int degree = -1;

        int numberAt(int exponent) {
            return exponent < 0 || exponent > degree ? 0 : numbers[exponent];
        }

        /** Becomes what stands in a row from the start on, up to the degree. */
        void assign(int[] from, int start, int newDegree) {
            for (int k = 0; k < numbers.length; k++) {
                numbers[k] = k <= newDegree && start + k < from.length ? from[start + k] : 0;
            }
            settle(numbers.length - 1);
        }

        void copy(OneLetter other) {
            System.arraycopy(other.numbers, 0, numbers, 0, numbers.length);
            degree = other.degree;
        }

        private void settle(int most) {
            degree = Math.min(most, numbers.length - 1);
            while (degree >= 0 && numbers[degree] == 0) {
                degree--;
            }
        }

        void addTo(int exponent, int number) {
            if (exponent < 0 || exponent >= numbers.length) {
                return;
            }
            numbers[exponent] = (numbers[exponent] + number) % NUMBERS;
            settle(Math.max(degree, exponent));
        }

        void makeMonic() {
            if (degree < 0) {
                return;
            }
            int factor = inverse(numbers[degree]);
            for (int k = 0; k <= degree; k++) {
                numbers[k] = numbers[k] * factor % NUMBERS;
            }
        }

        /** Leaves the remainder below the monic divisor's degree and the quotient from there on. */
        private void divide(OneLetter divisor) {
            for (int shift = degree - divisor.degree; shift >= 0; shift--) {
                int factor = NUMBERS - numbers[shift + divisor.degree];
                for (int k = 0; k < divisor.degree; k++) {
                    numbers[shift + k] = (numbers[shift + k] + factor * divisor.numbers[k]) % NUMBERS;
                }
            }
        }

        void becomeRemainder(OneLetter divisor) {
            if (divisor.degree < 0 || divisor.degree > degree) {
                return;
            }
            divide(divisor);
            for (int k = divisor.degree; k <= degree; k++) {
                numbers[k] = 0;
            }
            settle(divisor.degree - 1);
        }

        void becomeQuotient(OneLetter divisor) {
            if (divisor.degree < 1 || divisor.degree > degree) {
                return;
            }
            divide(divisor);
            int newDegree = degree - divisor.degree;
            for (int k = 0; k <= degree; k++) {
                numbers[k] = k <= newDegree ? numbers[k + divisor.degree] : 0;
            }
            degree = newDegree;
        }

        /** Becomes a power of the letter plus a shift, less multiples of a monic modulus. */
        void becomePower(int shift, int exponent, OneLetter modulus) {
            Arrays.fill(numbers, 0);
            numbers[0] = 1;
            degree = 0;
            for (int bit = 14; bit >= 0; bit--) {
                square();
                becomeRemainder(modulus);
                if (((exponent >> bit) & 1) == 1) {
                    multiplyByShifted(shift);
                    becomeRemainder(modulus);
                }
            }
        }

        private void square() {
            if (degree < 0 || 2 * degree >= numbers.length) {
                return;
            }
            // From above, so that each number is written when none below it needs it any more.
            for (int exponent = 2 * degree; exponent >= 0; exponent--) {
                long sum = 0;
                for (int k = Math.max(0, exponent - degree); k <= degree && k <= exponent; k++) {
                    sum += (long) numbers[k] * numbers[exponent - k];
                }
                numbers[exponent] = (int) (sum % NUMBERS);
            }
            degree = 2 * degree;
        }

        private void multiplyByShifted(int shift) {
            if (degree < 0 || degree + 1 >= numbers.length) {
                return;
            }
            degree++;
            for (int k = degree; k > 0; k--) {
                numbers[k] = (numbers[k - 1] + shift * numbers[k]) % NUMBERS;
            }
            numbers[0] = shift * numbers[0] % NUMBERS;
        }
    }

    /** Finds where a polynomial in one letter is 0, without a trial of all numbers. */
    private static final class Roots {
        private final OneLetter[] factors = new OneLetter[MOST_LEFT];
        private int factorCount;
        private final OneLetter one = new OneLetter();
        private final OneLetter other = new OneLetter();

        Roots() {
            for (int f = 0; f < MOST_LEFT; f++) {
                factors[f] = new OneLetter();
            }
        }

        /** Writes them in order; how many there are. */
        int find(OneLetter polynomial, int[] into) {
            if (polynomial.degree < 1 || polynomial.degree > MOST_LEFT) {
                return 0;
            }
            // The letter's 32003rd power less the letter is the product of the letter less each number.
            one.becomePower(0, NUMBERS, polynomial);
            one.addTo(1, NUMBERS - 1);
            other.copy(polynomial);
            factors[0].copy(commonDivisor(other, one));
            factorCount = 1;
            int most = factors[0].degree;
            if (most < 1) {
                return 0;
            }
            // Any two numbers are told apart by some shift: of one it is a square, of the other not.
            for (int shift = 0; shift < NUMBERS && factorCount < most; shift++) {
                int before = factorCount;
                for (int f = 0; f < before; f++) {
                    split(f, shift);
                }
            }
            return writeRoots(into);
        }

        /** Parts a factor into the numbers that the shift makes squares, and the others. */
        private void split(int f, int shift) {
            OneLetter factor = factors[f];
            if (factor.degree < 2 || factorCount >= MOST_LEFT) {
                return;
            }
            one.becomePower(shift, (NUMBERS - 1) / 2, factor);
            one.addTo(0, NUMBERS - 1);
            other.copy(factor);
            OneLetter part = commonDivisor(other, one);
            if (part.degree > 0 && part.degree < factor.degree) {
                factors[factorCount].copy(part);
                factorCount++;
                factor.becomeQuotient(part);
            }
        }

        /** The monic greatest one that divides both, the first of which is monic; both are lost. */
        private static OneLetter commonDivisor(OneLetter first, OneLetter second) {
            OneLetter high = first;
            OneLetter low = second;
            for (int step = 0; step <= 2 * MOST_LEFT + 2 && low.degree >= 0; step++) {
                low.makeMonic();
                high.becomeRemainder(low);
                OneLetter rest = high;
                high = low;
                low = rest;
            }
            return high;
        }

        private int writeRoots(int[] into) {
            int found = 0;
            for (int f = 0; f < factorCount && found < into.length; f++) {
                int root = (NUMBERS - factors[f].numbers[0]) % NUMBERS;
                int spot = found;
                while (spot > 0 && into[spot - 1] > root) {
                    into[spot] = into[spot - 1];
                    spot--;
                }
                into[spot] = root;
                found++;
            }
            return found;
        }
    }

    /** What run() finds of a LIST. */
    private static final class Solver {
        private final int letters;
        private final Reducer reducer;
        private final Quotient quotient;
        private final Roots finder = new Roots();
        private final OneLetter[] least = new OneLetter[MOST_LETTERS];
        private final int[][] roots = new int[MOST_LETTERS][MOST_LEFT];
        private final int[] rootCounts = new int[MOST_LETTERS];
        private final int[][] zeros = new int[MOST_LEFT][MOST_LETTERS];
        private final int[] multiplicities = new int[MOST_LEFT];
        private int zeroCount;
        private final Point point = new Point();

        Solver(int letters) {
            this.letters = letters;
            reducer = new Reducer(letters);
            quotient = new Quotient(letters);
            for (int letter = 0; letter < MOST_LETTERS; letter++) {
                least[letter] = new OneLetter();
                // A letter that isn't there has one number, 0, and no power has it.
                rootCounts[letter] = 1;
            }
        }

        int solve(TakenList list) {
            zeroCount = 0;
            if (!reducer.isBasis(list)) {
                return NOT_A_BASIS;
            }
            if (!list.isFinite(letters)) {
                return NOT_FINITE;
            }
            if (!quotient.collect(list, reducer)) {
                return TOO_MANY_LEFT;
            }
            quotient.findProducts(list, reducer);
            for (int letter = 0; letter < letters; letter++) {
                quotient.findLeast(letter, least[letter]);
                rootCounts[letter] = finder.find(least[letter], roots[letter]);
            }
            findZeros(list);
            for (int zero = 0; zero < zeroCount; zero++) {
                multiplicities[zero] = quotient.multiplicityAt(zeros[zero]);
            }
            return zeroCount;
        }

        private void findZeros(TakenList list) {
            for (int first = 0; first < rootCounts[0]; first++) {
                point.move(0, roots[0][first]);
                for (int second = 0; second < rootCounts[1]; second++) {
                    point.move(1, roots[1][second]);
                    for (int third = 0; third < rootCounts[2]; third++) {
                        point.move(2, roots[2][third]);
                        if (list.vanishesAt(point)) {
                            keepZero();
                        }
                    }
                }
            }
        }

        private void keepZero() {
            if (zeroCount >= MOST_LEFT) {
                return;
            }
            for (int letter = 0; letter < MOST_LETTERS; letter++) {
                zeros[zeroCount][letter] = point.number(letter);
            }
            zeroCount++;
        }
    }
}
