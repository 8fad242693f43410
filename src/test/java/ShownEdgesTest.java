/** The edges of promises 11 to 14, count, atoms, atom and bond, a sentence of the document each. */
final class ShownEdgesTest {
    private static final int[] FAR = {-1, -2, -9, -10, -11, -100, 10, 11, 12, 13, 20, 99, 100, 256, 1 << 28, Integer.MIN_VALUE, Integer.MAX_VALUE};
    private static final int[] NO_IDS = {0, -1, -2, -12, 4, 5, 12, 13, 256, 257, 1 << 30, Integer.MIN_VALUE, Integer.MAX_VALUE};

    public static void main(String[] args) {
        howMany();
        countWhileDown();
        howManyAtoms();
        atomsOfNone();
        atomsWhileDown();
        atomAsWritten();
        theCode();
        chargesInTheCode();
        atomOfNone();
        atomWhileDown();
        theBond();
        bondOfNone();
        bondOfFarAtoms();
        bondWhileDown();
        othersStay();
        Checks.end();
    }

    private static void howMany() {
        Checks.sentence("How many molecules there are");
        Checks c = new Checks();
        for (int i = 0; i < 12; i++) {
            Checks.due("count", c.registry.count(), i);
            c.register(Checks.TWELVE[i]);
        }
        Checks.due("count", c.registry.count(), 12);
        Checks.due("a thirteenth", c.register("NS"), Checks.INDEX);
        Checks.due("count", c.registry.count(), 12);
        for (int i = 12; i > 0; i--) {
            c.remove(i);
            Checks.due("count", c.registry.count(), i - 1);
        }
        c.remove(1);
        Checks.due("count", c.registry.count(), 0);
    }

    private static void countWhileDown() {
        Checks.sentence("-1 when it is DOWN");
        for (int n = 1; n <= 4; n++) {
            Checks none = Checks.downAt(n);
            Checks.due("count", none.registry.count(), -1);
            none.registry.recover();
            Checks.due("count when up", none.registry.count(), n >= 3 ? 1 : 0);
            Checks full = Checks.with(Checks.TWELVE);
            full.registry.fail(n);
            Checks.due("remove", full.remove(3), -2);
            Checks.due("count", full.registry.count(), -1);
            full.registry.recover();
            Checks.due("count when up", full.registry.count(), n >= 3 ? 11 : 12);
        }
    }

    private static void howManyAtoms() {
        Checks.sentence("Molecule id: how many atoms it has");
        Checks c = new Checks();
        for (int size = 1; size <= 10; size++) {
            Checks.due("register", c.register("C".repeat(size)), size);
        }
        for (int size = 1; size <= 10; size++) {
            Checks.due("atoms " + size, c.registry.atoms(size), size);
        }
        Checks.due("hydrogens are none", Checks.with("[CH4]").registry.atoms(1), 1);
    }

    private static void atomsOfNone() {
        Checks.sentence("0 when there is none (atoms)");
        Checks none = new Checks();
        Checks c = Checks.with("CCC", "CC", "C");
        for (int id : NO_IDS) {
            Checks.due("atoms " + id, c.registry.atoms(id), 0);
            Checks.due("atoms " + id + " of none", none.registry.atoms(id), 0);
        }
        Checks.due("atoms 1 of none", none.registry.atoms(1), 0);
        Checks.due("atoms 1, 2, 3", c.registry.atoms(1) * 100 + c.registry.atoms(2) * 10 + c.registry.atoms(3), 321);
        c.remove(3);
        Checks.due("the last is gone", c.registry.atoms(3), 0);
        c.remove(1);
        Checks.due("the first is gone", c.registry.atoms(1), 0);
        Checks.due("the other is not", c.registry.atoms(2), 2);
        Checks full = Checks.with(Checks.TWELVE);
        Checks.due("the twelfth", full.registry.atoms(12), 2);
        Checks.due("no thirteenth", full.registry.atoms(13), 0);
    }

    private static void atomsWhileDown() {
        Checks.sentence("or it is DOWN");
        for (int n = 1; n <= 4; n++) {
            Checks c = Checks.downAt(n, "CCC", "CC");
            for (int id = 0; id <= 4; id++) {
                Checks.due("atoms " + id, c.registry.atoms(id), 0);
            }
            c.registry.recover();
            Checks.due("atoms when up", c.registry.atoms(1) * 10 + c.registry.atoms(2), 32);
            Checks.due("atoms of the new one", c.registry.atoms(3), n >= 3 ? 2 : 0);
        }
    }

    private static void atomAsWritten() {
        Checks.sentence("Atom i of molecule id, as it was written when it was registered");
        Checks c = Checks.with("CNO", "C(S)F");
        Checks.due("the same, written otherwise", c.register("ONC"), 1);
        Checks.due("the same, written otherwise", c.register("FCS"), 2);
        Checks.due("looked up, written otherwise", c.lookup("N(O)C"), 1);
        String[] letters = {"CNO", "CSF"};
        for (int id = 1; id <= 2; id++) {
            for (int i = 0; i < 3; i++) {
                Checks.due("atom " + id + " " + i, (char) (c.registry.atom(id, i) & 127), letters[id - 1].charAt(i));
            }
        }
        c.remove(1);
        Checks.due("registered anew", c.register("ONC"), 3);
        Checks.due("as it is written now", (char) (c.registry.atom(3, 0) & 127), 'O');
        for (int n = 3; n <= 4; n++) {
            Checks d = new Checks();
            d.registry.fail(n);
            Checks.due("register", d.register("N(C)O"), -2);
            d.typed("ONC");
            d.registry.recover();
            Checks.due("the first", (char) (d.registry.atom(1, 0) & 127), 'N');
            Checks.due("the last", (char) (d.registry.atom(1, 2) & 127), 'O');
        }
    }

    private static void theCode() {
        Checks.sentence("the code of its capital letter, plus 128 if it is aromatic, plus 256 times its hydrogens, plus 4096 for no charge");
        atomIs("C", 0, 67 + 1024 + 4096);
        atomIs("CF", 0, 67 + 768 + 4096);
        atomIs("C(F)F", 0, 67 + 512 + 4096);
        atomIs("C(F)(F)F", 0, 67 + 256 + 4096);
        atomIs("C(F)(F)(F)F", 0, 67 + 4096);
        atomIs("N", 0, 78 + 768 + 4096);
        atomIs("O", 0, 79 + 512 + 4096);
        atomIs("S", 0, 83 + 512 + 4096);
        atomIs("F", 0, 70 + 256 + 4096);
        atomIs("[CH4]", 0, 67 + 1024 + 4096);
        atomIs("cc", 1, 67 + 128 + 512 + 4096);
        atomIs("nn", 1, 78 + 128 + 256 + 4096);
        atomIs("o", 0, 79 + 128 + 512 + 4096);
        atomIs("s", 0, 83 + 128 + 512 + 4096);
        atomIs("FoF", 1, 79 + 128 + 4096);
        atomIs("CCCCCCCCCS", 9, 83 + 256 + 4096);
    }

    private static void atomIs(String text, int i, int code) {
        Checks.due("atom " + i + " of " + text, Checks.with(text).registry.atom(1, i), code);
    }

    private static void chargesInTheCode() {
        Checks.sentence("8192 for + (nothing for -)");
        atomIs("[NH4+]", 0, 78 + 1024 + 8192);
        atomIs("[NH2-]", 0, 78 + 512);
        atomIs("[F-]", 0, 70);
        atomIs("[FH2+]", 0, 70 + 512 + 8192);
        atomIs("[OH-]", 0, 79 + 256);
        atomIs("[SH3+]", 0, 83 + 768 + 8192);
        atomIs("[CH3+]", 0, 67 + 768 + 8192);
        atomIs("[CH3-]", 0, 67 + 768);
        atomIs("C[O-]", 1, 79);
    }

    private static void atomOfNone() {
        Checks.sentence("0 when there is none. (atom)");
        Checks c = Checks.with("CCCCCCCCCC", "CC", "S");
        Checks none = new Checks();
        for (int far : FAR) {
            Checks.due("atom 1 " + far, c.registry.atom(1, far), 0);
            Checks.due("atom 2 " + far, c.registry.atom(2, far), 0);
            Checks.due("atom 3 " + far, c.registry.atom(3, far), 0);
            Checks.due("atom 1 " + far + " of none", none.registry.atom(1, far), 0);
        }
        for (int id : NO_IDS) {
            Checks.due("atom " + id + " 0", c.registry.atom(id, 0), 0);
            Checks.due("atom " + id + " 0 of none", none.registry.atom(id, 0), 0);
        }
        Checks.due("atom 1 9", c.registry.atom(1, 9), 'C' + 768 + 4096);
        Checks.due("atom 2 1", c.registry.atom(2, 1), 'C' + 768 + 4096);
        Checks.due("atom 2 2", c.registry.atom(2, 2), 0);
        Checks.due("atom 3 1", c.registry.atom(3, 1), 0);
        c.remove(1);
        Checks.due("atom 1 0, removed", c.registry.atom(1, 0), 0);
        Checks.due("atom 1 9, removed", c.registry.atom(1, 9), 0);
        // The room of the one removed is used again by one with fewer atoms.
        Checks.due("register", c.register("N"), 4);
        Checks.due("atom 4 0", c.registry.atom(4, 0), 'N' + 768 + 4096);
        Checks.due("atom 4 1", c.registry.atom(4, 1), 0);
    }

    private static void atomWhileDown() {
        Checks.sentence("While it is DOWN only the buffer and recover can be used. (atom)");
        for (int n = 1; n <= 4; n++) {
            Checks c = Checks.downAt(n, "CO");
            for (int i = -1; i <= 2; i++) {
                Checks.due("atom 1 " + i, c.registry.atom(1, i), 0);
                Checks.due("atom 2 " + i, c.registry.atom(2, i), 0);
            }
            c.registry.recover();
            Checks.due("atom 1 1 when up", c.registry.atom(1, 1), 'O' + 256 + 4096);
            Checks.due("atom 2 0 when up", c.registry.atom(2, 0), n >= 3 ? 'F' + 4096 : 0);
        }
    }

    private static void theBond() {
        Checks.sentence("The bond between atoms i and j of molecule id");
        Checks c = Checks.with("CC", "C=C", "C#C", "cc", "o-o", "CCCCCCCC=CC", "C=1CCCCCCCCC1");
        int[] kinds = {1, 2, 3, 4, 1};
        for (int id = 1; id <= 5; id++) {
            Checks.due("bond " + id + " 0 1", c.registry.bond(id, 0, 1), kinds[id - 1]);
            Checks.due("bond " + id + " 1 0", c.registry.bond(id, 1, 0), kinds[id - 1]);
        }
        Checks.due("bond 6 7 8", c.registry.bond(6, 7, 8), 2);
        Checks.due("bond 6 9 8", c.registry.bond(6, 9, 8), 1);
        Checks.due("bond 7 0 9", c.registry.bond(7, 0, 9), 2);
        Checks.due("bond 7 9 0", c.registry.bond(7, 9, 0), 2);
    }

    private static void bondOfNone() {
        Checks.sentence("0 when there is none. (bond)");
        Checks c = Checks.with("C=CCCCCCCC=C", "C=C", "C");
        Checks none = new Checks();
        for (int i = 0; i < 10; i++) {
            Checks.due("bond 1 of " + i + " to itself", c.registry.bond(1, i, i), 0);
            for (int j = 0; j < 10; j++) {
                boolean apart = i - j > 1 || j - i > 1;
                Checks.due("bond 1 " + i + " " + j + " is none", c.registry.bond(1, i, j) == 0, apart || i == j);
            }
        }
        for (int id : NO_IDS) {
            Checks.due("bond " + id + " 0 1", c.registry.bond(id, 0, 1), 0);
            Checks.due("bond " + id + " 0 1 of none", none.registry.bond(id, 0, 1), 0);
        }
        c.remove(2);
        Checks.due("bond 2 0 1, removed", c.registry.bond(2, 0, 1), 0);
        c.remove(1);
        Checks.due("register", c.register("N"), 4);
        Checks.due("register", c.register("NCO"), 5);
        Checks.due("bond 4 0 1", c.registry.bond(4, 0, 1), 0);
        Checks.due("bond 5 0 2", c.registry.bond(5, 0, 2), 0);
        Checks.due("bond 5 2 3", c.registry.bond(5, 2, 3), 0);
        Checks.due("bond 5 1 2", c.registry.bond(5, 1, 2), 1);
    }

    private static void bondOfFarAtoms() {
        Checks.sentence("0 when there is none. (bond, atoms that there are not)");
        Checks c = Checks.with("C12C3C4C1C5C2C3C45", "CCCCCCCCCC", "CC");
        for (int far : FAR) {
            for (int id = 1; id <= 3; id++) {
                Checks.due("bond " + id + " 0 " + far, c.registry.bond(id, 0, far), 0);
                Checks.due("bond " + id + " 1 " + far, c.registry.bond(id, 1, far), 0);
                Checks.due("bond " + id + " " + far + " 0", c.registry.bond(id, far, 0), 0);
                Checks.due("bond " + id + " " + far + " 1", c.registry.bond(id, far, 1), 0);
                Checks.due("bond " + id + " " + far + " " + far, c.registry.bond(id, far, far), 0);
            }
        }
        Checks d = Checks.with("CCCCCCCCCC");
        for (int i = 0; i < 10; i++) {
            // Pairs that would be a bond if they were counted in one row.
            Checks.due("bond " + i + " 12", d.registry.bond(1, i, 12), 0);
            Checks.due("bond " + i + " -9", d.registry.bond(1, i, -9), 0);
            Checks.due("bond -1 " + (10 + i), d.registry.bond(1, -1, 10 + i), 0);
            Checks.due("bond 10 " + (i - 10), d.registry.bond(1, 10, i - 10), 0);
        }
        Checks.due("bond 8 9", d.registry.bond(1, 8, 9), 1);
        Checks.due("bond 9 10", d.registry.bond(1, 9, 10), 0);
        Checks.due("bond 0 -1", d.registry.bond(1, 0, -1), 0);
    }

    private static void bondWhileDown() {
        Checks.sentence("While it is DOWN only the buffer and recover can be used. (bond)");
        for (int n = 1; n <= 4; n++) {
            Checks c = Checks.downAt(n, "C=O");
            Checks.due("bond 1 0 1", c.registry.bond(1, 0, 1), 0);
            Checks.due("bond 1 1 0", c.registry.bond(1, 1, 0), 0);
            Checks.due("bond 2 0 1", c.registry.bond(2, 0, 1), 0);
            c.registry.recover();
            Checks.due("bond 1 0 1 when up", c.registry.bond(1, 0, 1), 2);
            Checks.due("bond 2 0 1 when up", c.registry.bond(2, 0, 1), n >= 3 ? 1 : 0);
        }
    }

    private static void othersStay() {
        Checks.sentence("The molecule with this ID goes (and no other)");
        for (int gone = 1; gone <= 4; gone++) {
            Checks c = Checks.with("C=O", "C#N", "cc", "[NH4+]");
            Checks d = Checks.with("C=O", "C#N", "cc", "[NH4+]");
            c.remove(gone);
            for (int id = 1; id <= 4; id++) {
                int stays = id == gone ? 0 : 1;
                Checks.due("atoms " + id, c.registry.atoms(id), stays * d.registry.atoms(id));
                Checks.due("atom " + id + " 0", c.registry.atom(id, 0), stays * d.registry.atom(id, 0));
                Checks.due("bond " + id + " 0 1", c.registry.bond(id, 0, 1), stays * d.registry.bond(id, 0, 1));
            }
        }
    }
}
