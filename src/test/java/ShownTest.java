/** Promises 11 to 14: count, atoms, atom and bond. */
final class ShownTest {
    private static final int H = 256;
    private static final int NEUTRAL = 4096;
    private static final int PLUS = 8192;
    private static final int AROMATIC = 128;

    public static void main(String[] args) {
        counts();
        atomsAsWritten();
        charges();
        aromatics();
        bonds();
        wrongPlaces();
        Checks.end();
    }

    private static void counts() {
        Checks c = new Checks();
        Checks.due("none", c.registry.count(), 0);
        c.register("C");
        c.register("[CH4]");
        Checks.due("the same", c.registry.count(), 1);
        c.register("CC");
        Checks.due("two", c.registry.count(), 2);
        c.remove(1);
        Checks.due("one", c.registry.count(), 1);
        c.register("(");
        Checks.due("none came", c.registry.count(), 1);
        Checks.due("ten atoms", c.register("CCCCCCCCCC"), 3);
        Checks.due("ten atoms", c.registry.atoms(3), 10);
        Checks.due("two atoms", c.registry.atoms(2), 2);
        Checks.due("removed", c.registry.atoms(1), 0);
    }

    private static void shown(String text, int... codes) {
        Checks c = new Checks();
        c.register("FF");
        Checks.due("register of " + text, c.register(text), 2);
        Checks.due("atoms of " + text, c.registry.atoms(2), codes.length);
        for (int i = 0; i < codes.length; i++) {
            Checks.due("atom " + i + " of " + text, c.registry.atom(2, i), codes[i]);
        }
        Checks.due("atom behind the last of " + text, c.registry.atom(2, codes.length), 0);
    }

    private static void atomsAsWritten() {
        shown("CCO", 'C' + 3 * H + NEUTRAL, 'C' + 2 * H + NEUTRAL, 'O' + H + NEUTRAL);
        shown("OCC", 'O' + H + NEUTRAL, 'C' + 2 * H + NEUTRAL, 'C' + 3 * H + NEUTRAL);
        shown("C(O)(F)S", 'C' + H + NEUTRAL, 'O' + H + NEUTRAL, 'F' + NEUTRAL, 'S' + H + NEUTRAL);
        shown("C", 'C' + 4 * H + NEUTRAL);
        shown("N#N", 'N' + NEUTRAL, 'N' + NEUTRAL);
        shown("O=C=O", 'O' + NEUTRAL, 'C' + NEUTRAL, 'O' + NEUTRAL);
        Checks c = new Checks();
        c.register("CCO");
        c.register("OCC");
        Checks.due("as it was first written", c.registry.atom(1, 0) & 127, (int) 'C');
    }

    private static void charges() {
        shown("[NH4+]", 'N' + 4 * H + PLUS);
        shown("[OH-]", 'O' + H);
        shown("[F-]", (int) 'F');
        shown("[CH3+]", 'C' + 3 * H + PLUS);
        shown("[CH3-]", 'C' + 3 * H);
        shown("[CH2]=O", 'C' + 2 * H + NEUTRAL, 'O' + NEUTRAL);
        shown("[SH2]", 'S' + 2 * H + NEUTRAL);
    }

    private static void aromatics() {
        int c = 'C' + AROMATIC + NEUTRAL;
        shown("c1ccccn1", c + H, c + H, c + H, c + H, c + H, 'N' + AROMATIC + NEUTRAL);
        shown("c1cc(C)oc1", c + H, c + H, c, 'C' + 3 * H + NEUTRAL, 'O' + AROMATIC + NEUTRAL, c + H);
        shown("cc", c + 2 * H, c + 2 * H);
        shown("o", 'O' + AROMATIC + NEUTRAL + 2 * H);
        shown("ss", 'S' + AROMATIC + NEUTRAL + H, 'S' + AROMATIC + NEUTRAL + H);
        shown("nn", 'N' + AROMATIC + NEUTRAL + H, 'N' + AROMATIC + NEUTRAL + H);
    }

    private static void bonds() {
        Checks c = new Checks();
        c.register("C=C(C#N)C1CO-1");
        int[][] want = {{0, 1, 2}, {1, 2, 1}, {2, 3, 3}, {1, 4, 1}, {4, 5, 1}, {5, 6, 1}, {4, 6, 1}};
        all(c, 1, 7, want);
        c.register("c1cc-2c1cc2");
        all(c, 2, 6, new int[][] {{0, 1, 4}, {1, 2, 4}, {2, 3, 4}, {0, 3, 4}, {3, 4, 4}, {4, 5, 4}, {2, 5, 1}});
        c.register("C=1CC1C1CC=1");
        all(c, 3, 6, new int[][] {{0, 1, 1}, {1, 2, 1}, {0, 2, 2}, {2, 3, 1}, {3, 4, 1}, {4, 5, 1}, {3, 5, 2}});
        c.register("cc-cc");
        all(c, 4, 4, new int[][] {{0, 1, 4}, {1, 2, 1}, {2, 3, 4}});
    }

    private static void all(Checks c, int id, int size, int[][] bonds) {
        int[][] kinds = new int[size][size];
        for (int[] bond : bonds) {
            kinds[bond[0]][bond[1]] = bond[2];
            kinds[bond[1]][bond[0]] = bond[2];
        }
        Checks.due("atoms of " + id, c.registry.atoms(id), size);
        for (int i = 0; i < size; i++) {
            for (int j = 0; j < size; j++) {
                Checks.due("bond " + i + " " + j + " of " + id, c.registry.bond(id, i, j), kinds[i][j]);
            }
        }
    }

    private static void wrongPlaces() {
        Checks c = new Checks();
        c.register("CCCCCCCCCC");
        c.register("CC");
        int[] wrong = {-1, 2, 3, 10, 11, 12, 99, Integer.MIN_VALUE, Integer.MAX_VALUE};
        for (int w : wrong) {
            Checks.due("atom 2 " + w, c.registry.atom(2, w), 0);
            Checks.due("bond 2 0 " + w, c.registry.bond(2, 0, w), 0);
            Checks.due("bond 2 " + w + " 0", c.registry.bond(2, w, 0), 0);
            Checks.due("bond 2 " + w + " " + w, c.registry.bond(2, w, w), 0);
        }
        for (int id : new int[] {0, -1, 3, 13, Integer.MIN_VALUE, Integer.MAX_VALUE}) {
            Checks.due("atoms " + id, c.registry.atoms(id), 0);
            Checks.due("atom " + id, c.registry.atom(id, 0), 0);
            Checks.due("bond " + id, c.registry.bond(id, 0, 1), 0);
        }
    }
}
