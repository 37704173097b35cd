/**
 * An object of the class for as many calls as the document says that one is used for. A test that
 * asks for more ends with an error: behind the 512th call any answer would be right.
 */
final class Counted {
    static final int MOST_CALLS = 512;

    private final SolutionBoxes boxes;
    private int calls;

    Counted(int n) {
        boxes = new SolutionBoxes(n);
    }

    private SolutionBoxes call() {
        if (calls >= MOST_CALLS) {
            throw new AssertionError("this test uses an object for over 512 calls");
        }
        calls++;
        return boxes;
    }

    int callsLeft() {
        return MOST_CALLS - calls;
    }

    int poly() {
        return call().poly();
    }

    boolean term(int p, long above, long below, int power) {
        return call().term(p, above, below, power);
    }

    boolean take(int p) {
        return call().take(p);
    }

    int run() {
        return call().run();
    }

    int total() {
        return call().total();
    }

    int left(int k) {
        return call().left(k);
    }

    int at(int zero, int letter) {
        return call().at(zero, letter);
    }

    int multiplicity(int zero) {
        return call().multiplicity(zero);
    }

    int minimal(int letter, int exponent) {
        return call().minimal(letter, exponent);
    }

    int value(int p, int zero) {
        return call().value(p, zero);
    }

    int free(int k) {
        return call().free(k);
    }

    void clear() {
        call().clear();
    }

    int count(int what) {
        return call().count(what);
    }

    /** Sets numbers of a polynomial, from pairs of a number and a power. */
    void set(int p, long... pairs) {
        for (int i = 0; i + 1 < pairs.length; i += 2) {
            term(p, pairs[i], 1, (int) pairs[i + 1]);
        }
    }

    /** Sets numbers of a polynomial and takes it. */
    void setAndTake(int p, long... pairs) {
        set(p, pairs);
        if (!take(p)) {
            throw new AssertionError("take(" + p + ") answered false where a test wants it taken");
        }
    }
}
