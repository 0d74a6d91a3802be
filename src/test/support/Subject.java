/**
 * CodeProbes with its calls counted: "An object is used for at most 512 calls after it has been made; what later calls
 * answer is free", so that no test may lean on a later one.
 */
final class Subject {
    private static final int MOST_CALLS = 512;

    private final CodeProbes it = new CodeProbes();
    private int calls = 0;

    private CodeProbes next() {
        calls++;
        if (calls > MOST_CALLS) {
            throw new IllegalStateException("a test makes more than " + MOST_CALLS + " calls on one object");
        }
        return it;
    }

    int write(int letter) {
        return next().write(letter);
    }

    int wipe() {
        return next().wipe();
    }

    int fault() {
        return next().fault();
    }

    int lay() {
        return next().lay();
    }

    int probe(int kind, int cell) {
        return next().probe(kind, cell);
    }

    int turn(int p, int is) {
        return next().turn(p, is);
    }

    int remove(int p) {
        return next().remove(p);
    }

    int filter(int p) {
        return next().filter(p);
    }

    int start(int c, int cell, int acc) {
        return next().start(c, cell, acc);
    }

    int step(int c, int n) {
        return next().step(c, n);
    }

    int poke(int k, int v) {
        return next().poke(k, v);
    }

    int undo() {
        return next().undo();
    }

    int code(int cell, int real) {
        return next().code(cell, real);
    }

    int memory(int k) {
        return next().memory(k);
    }

    int processor(int c, int what) {
        return next().processor(c, what);
    }

    int returns(int c, int k, int real) {
        return next().returns(c, k, real);
    }

    int ring(int c, int k, int what) {
        return next().ring(c, k, what);
    }

    int look(int p, int what) {
        return next().look(p, what);
    }

    int asked(int acc) {
        return next().asked(acc);
    }

    int ever(int c, int n, int what) {
        return next().ever(c, n, what);
    }

    int count(int what) {
        return next().count(what);
    }
}
