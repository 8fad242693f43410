/** A registry that counts its calls: what is answered after the 512th is free, so no test may rest on it. */
final class Counted {
    static final int MOST_CALLS = 512;

    private final MoleculeRegistry registry = new MoleculeRegistry();
    private int calls;

    private MoleculeRegistry next() {
        calls++;
        if (calls == MOST_CALLS + 1) {
            Checks.due("calls of one object in a test", "more than 512", "at most 512");
        }
        return registry;
    }

    int calls() {
        return calls;
    }

    boolean type(long eight) {
        return next().type(eight);
    }

    void wipe() {
        next().wipe();
    }

    int register() {
        return next().register();
    }

    int lookup() {
        return next().lookup();
    }

    int search() {
        return next().search();
    }

    int found(int k) {
        return next().found(k);
    }

    int remove(int id) {
        return next().remove(id);
    }

    boolean fail(int n) {
        return next().fail(n);
    }

    int recover() {
        return next().recover();
    }

    int count() {
        return next().count();
    }

    int atoms(int id) {
        return next().atoms(id);
    }

    int atom(int id, int i) {
        return next().atom(id, i);
    }

    int bond(int id, int i, int j) {
        return next().bond(id, i, j);
    }
}
