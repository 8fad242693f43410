/** The edges of TWO MOLECULES ARE THE SAME: pairs that differ in one thing alone, and pairs that only look different. */
final class SameEdgesTest {
    public static void main(String[] args) {
        oneToOne();
        element();
        aromatic();
        charge();
        hydrogens();
        kindsOfBonds();
        placesOfBonds();
        allBonds();
        howeverItIsWritten();
        Checks.end();
    }

    private static void different(String... texts) {
        Checks c = new Checks();
        for (int i = 0; i < texts.length; i++) {
            Checks.due("lookup of " + texts[i], c.lookup(texts[i]), 0);
            Checks.due("register of " + texts[i], c.register(texts[i]), i + 1);
        }
        for (int i = 0; i < texts.length; i++) {
            Checks.due("lookup of " + texts[i] + " behind all", c.lookup(texts[i]), i + 1);
        }
        Checks.due("count", c.registry.count(), texts.length);
    }

    private static void same(String... texts) {
        for (String first : texts) {
            Checks c = Checks.with("FF", first);
            for (String second : texts) {
                Checks.due("lookup of " + second + " behind " + first, c.lookup(second), 2);
                Checks.due("register of " + second + " behind " + first, c.register(second), 2);
            }
            Checks.due("count", c.registry.count(), 2);
        }
    }

    private static void oneToOne() {
        Checks.sentence("when their atoms can be put one to one");
        // Each is part of the next one, up to ten atoms.
        different("C", "CC", "CCC", "CCCC", "CCCCC", "CCCCCC", "CCCCCCC", "CCCCCCCC", "CCCCCCCCC", "CCCCCCCCCC");
        different("CCCCCCCCCC", "CCCCCCCCC", "C");
        different("o", "oo", "ooo", "oooooooooo", "ooooooooo");
    }

    private static void element() {
        Checks.sentence("so that element .. [is] alike");
        different("O", "S");
        different("CCCCCCCCCO", "CCCCCCCCCS", "CCCCOCCCCC", "CCCCSCCCCC");
        different("o", "s");
        different("C", "N", "F");
        // As many of each, in other places.
        different("OCS", "COS", "CSO");
        different("OCC(=O)S", "SCC(=O)O", "OCC(=S)O");
    }

    private static void aromatic() {
        Checks.sentence("whether aromatic");
        different("o", "O");
        different("s", "S");
        different("o-o", "o-O", "O-O");
        different("Co", "CO");
        different("FoF", "FOF");
    }

    private static void charge() {
        Checks.sentence("charge");
        different("[CH3+]", "[CH3-]");
        different("CCCC[CH2+]", "CCCC[CH2-]", "CCCCC");
        different("[NH4+]", "N", "[NH2-]");
        different("[CH2+][CH2-]", "[CH2+][CH2+]", "[CH2-][CH2-]");
        different("[CH2+]C[CH-]C", "[CH2-]C[CH+]C");
        same("[CH2+][CH2-]", "[CH2-][CH2+]");
    }

    private static void hydrogens() {
        Checks.sentence("hydrogens");
        different("C", "[CH3+]", "C=C", "C#C", "CC");
        different("N", "[NH4+]", "[NH2-]", "N=N", "NN");
        same("C", "[CH4]");
        same("CC", "[CH3]C", "C[CH3]", "[CH3][CH3]");
        same("C(F)(F)(F)F", "[C](F)(F)(F)F", "FC(F)(F)F", "F[C](F)(F)F");
    }

    private static void kindsOfBonds() {
        Checks.sentence("and all bonds are alike (their kinds)");
        different("oo", "o-o");
        different("ooo", "oo-o", "o-o-o");
        different("o1oo1", "o-1oo1", "o-1o-o1", "o-1-o-o1");
        different("cccc", "c1ccc1", "c1ccc-1", "cc-cc");
        different("CC", "C=C", "C#C");
        different("CC=CC", "C=CCC", "C=CC=C", "CC#CC", "C#CCC");
    }

    private static void placesOfBonds() {
        Checks.sentence("and all bonds are alike (their places)");
        // Atoms with the same hydrogens and as many neighbours of each kind, bound otherwise.
        different("C1CCCCC1", "C1CCCCCC1", "C1CCCC1");
        different("C1CC1CCC1CC1", "C1CCC1CC1CC1", "C1CCCC1C1CC1");
        different("CCC(C)CCCC", "CC(C)CCCCC", "CCCC(C)CCC");
        different("C1CC2CCC1C2", "C1CCC2CC2C1", "C1CC2CCC2C1");
        different("C12C3C4C1C5C2C3C45", "C12C3C4C5C1C2C5C34");
    }

    private static void allBonds() {
        Checks.sentence("and all bonds are alike (all of them)");
        // One has the bonds of the other and one more, which is seen by the hydrogens too; in both orders.
        different("CCC", "C1CC1", "C=CC", "C=C=C");
        different("C1CC1", "CCC", "C12CC1C2", "C1CCC1");
        different("o1oooo1", "ooooo", "o1ooo1");
    }

    private static void howeverItIsWritten() {
        Checks.sentence("gives each kind of molecule one number however it is written");
        same("CCO", "OCC", "C(O)C", "C(C)O", "O(CC)", "C-C-O", "[CH3][CH2][OH]");
        same("C1CC1C", "CC1CC1", "C9(C)CC9", "C1C(C)C1", "C(C1CC1)", "C1(CC1)C");
        same("C=1CC1", "C1CC=1", "C=1CC=1", "C1=CC1", "C1C=C1", "C1-C=C-1");
        same("c1ccoc1", "o1cccc1", "c1occc1", "c1cocc1");
        same("CCCCCCCCCC", "C(CCCC)CCCCC", "C(C(C(C(C(C(C(C(C(C)))))))))");
        same("C12C3C4C1C5C2C3C45", "C12C5C4C1C3C2C5C34");
        // Ten atoms, all alike: three bonds each, Petersen's graph from two of its atoms.
        same("C12C3C4C5C1C1C3C5C2C41", "C15C2C3C4C5C6C2C4C1C36");
    }
}
