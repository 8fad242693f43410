/** The edges of VALENCES and of A MATCHING, a sentence of the document each. */
final class ValenceEdgesTest {
    private static final String ELEMENTS = "CNOSF";
    private static final int[] MOST = {4, 3, 2, 2, 1};

    public static void main(String[] args) {
        ordersOfBonds();
        atMostWithoutBrackets();
        asManyHydrogensAsAreWanting();
        exactlyInBrackets();
        bracketsWithOtherBonds();
        aromaticOrders();
        oneMoreForAromatic();
        joinedWithJustOne();
        eachOnce();
        boundByFour();
        oAndSAreJoinedWithNone();
        withoutAnyThereIsOne();
        Checks.end();
    }

    private static String bound(String atom, int singles, int doubles, int triples) {
        return atom + "(F)".repeat(singles) + "(=O)".repeat(doubles) + "(#N)".repeat(triples);
    }

    private static void ordersOfBonds() {
        Checks.sentence("The ORDERS of an atom: its bonds 1, 2, 3 as these numbers");
        for (int singles = 0; singles <= 5; singles++) {
            for (int doubles = 0; doubles <= 3; doubles++) {
                for (int triples = 0; triples <= 1; triples++) {
                    valence('C', 4, singles, doubles, triples);
                }
            }
        }
    }

    private static void valence(char element, int most, int singles, int doubles, int triples) {
        String text = bound(String.valueOf(element), singles, doubles, triples);
        int orders = singles + 2 * doubles + 3 * triples;
        if (singles + doubles + triples > 9 || text.length() > 40) {
            return;
        }
        if (orders > most) {
            Checks.areWrong(Checks.ARITHMETIC, text);
        } else {
            Checks c = Checks.with(text);
            Checks.due("atom 0 of " + text, c.registry.atom(1, 0), element + 256 * (most - orders) + 4096);
        }
    }

    private static void atMostWithoutBrackets() {
        Checks.sentence("An atom without brackets may have at most 4 (C, c), 3 (N, n), 2 (O, o, S, s), 1 (F)");
        for (int e = 0; e < 5; e++) {
            for (int singles = 0; singles <= 6; singles++) {
                valence(ELEMENTS.charAt(e), MOST[e], singles, 0, 0);
            }
            for (int singles = 0; singles <= 3; singles++) {
                valence(ELEMENTS.charAt(e), MOST[e], singles, 1, 0);
                valence(ELEMENTS.charAt(e), MOST[e], singles, 0, 1);
            }
        }
        Checks.areMolecules("o(F)F", "s(F)F", "c(F)(F)c", "c(F)(F)n", "n(F)c", "c1ccccc1F");
        Checks.areWrong(Checks.ARITHMETIC, "o(F)(F)F", "s(F)(F)F", "c(F)(F)(F)c", "n(F)(F)c", "c1ccccc1(F)F", "n1(F)ccccc1");
    }

    private static void asManyHydrogensAsAreWanting() {
        Checks.sentence("it has as many hydrogens as are wanting");
        String[] texts = {"C", "CF", "C(F)F", "C(F)(F)F", "C(F)(F)(F)F", "N", "O", "S", "F", "C=O", "C#N", "o", "s", "oF", "cc", "nn"};
        int[] hydrogens = {4, 3, 2, 1, 0, 3, 2, 2, 1, 2, 1, 2, 2, 1, 2, 1};
        for (int n = 0; n < texts.length; n++) {
            Checks c = Checks.with(texts[n]);
            Checks.due("hydrogens of atom 0 of " + texts[n], c.registry.atom(1, 0) >> 8 & 15, hydrogens[n]);
        }
    }

    private static void exactlyInBrackets() {
        Checks.sentence("these with its orders are exactly that number, 1 more with + and 1 less with - (but for C 1 less with either)");
        String[] hydrogens = {"", "H", "H2", "H3", "H4"};
        String[] charges = {"", "+", "-"};
        for (int e = 0; e < 5; e++) {
            for (int q = 0; q < 3; q++) {
                int due = dueInBrackets(e, q);
                for (int h = 0; h <= 4; h++) {
                    for (int singles = 0; singles <= 5; singles++) {
                        String atom = "[" + ELEMENTS.charAt(e) + hydrogens[h] + charges[q] + "]";
                        inBrackets(bound(atom, singles, 0, 0), h + singles == due, ELEMENTS.charAt(e) + 256 * h + new int[] {4096, 8192, 0}[q]);
                    }
                }
            }
        }
    }

    private static int dueInBrackets(int element, int charge) {
        int less = charge == 2 || (charge == 1 && element == 0) ? 1 : 0;
        int more = charge == 1 && element != 0 ? 1 : 0;
        return MOST[element] - less + more;
    }

    private static void inBrackets(String text, boolean fine, int code) {
        if (fine) {
            Checks c = Checks.with(text);
            Checks.due("atom 0 of " + text, c.registry.atom(1, 0), code);
        } else {
            Checks.areWrong(Checks.ARITHMETIC, text);
        }
    }

    private static void bracketsWithOtherBonds() {
        Checks.sentence("One in brackets has its hydrogens");
        Checks.areMolecules("[CH2]=O", "[CH]#N", "O=[C]=O", "[NH2+]=C", "[NH+]#C", "[N+](=O)(F)F", "[C-]#N", "[C+](=O)F", "[O+](=C)F", "[O+]#C");
        Checks.areWrong(Checks.ARITHMETIC, "[CH3]=O", "[CH]=O", "[CH2]#N", "[C]#N", "[NH3+]=C", "[NH]#C", "[N+](=O)F", "[CH-]#N", "[C+](=O)(F)F");
        Checks.areWrong(Checks.ARITHMETIC, "[CH]", "[CH2]", "[CH3]", "[CH4]F", "[NH4]", "[OH3]", "[FH2]");
    }

    private static void aromaticOrders() {
        Checks.sentence("each 4 as 1");
        // An o or s has two orders and no more; a 4 that counted 4, or 2, would be too much.
        Checks.areMolecules("oo", "ooo", "sss", "oF", "o(o)F", "o1oo1");
        Checks.areWrong(Checks.ARITHMETIC, "o(o)(o)o", "s(o)(o)o", "o(o)(o)F", "s(s)(F)F", "o(o)(-o)o");
        Checks c = Checks.with("oo", "ooo");
        Checks.due("an o with one 4", c.registry.atom(1, 0), 'O' + 128 + 256 + 4096);
        Checks.due("an o with two", c.registry.atom(2, 1), 'O' + 128 + 4096);
    }

    private static void oneMoreForAromatic() {
        Checks.sentence("and 1 more for an aromatic c or n that has a 4");
        // With one 4, two and three: orders 2, 3 and 4; a c has up to four, an n up to three.
        Checks c = Checks.with("cc", "c(c)o", "c(c)(o)o", "nc", "n(c)o");
        int[] due = {'C' + 128 + 512 + 4096, 'C' + 128 + 256 + 4096, 'C' + 128 + 4096, 'N' + 128 + 256 + 4096, 'N' + 128 + 4096};
        for (int id = 1; id <= 5; id++) {
            Checks.due("atom 0 of " + id, c.registry.atom(id, 0), due[id - 1]);
        }
        Checks.areWrong(Checks.ARITHMETIC, "c(c)(o)(o)o", "n(c)(o)o", "c(c)(o)(o)F", "n(c)(o)F", "c(c)(o)(F)F", "n(c)(F)F");
        Checks.areMolecules("c(c)(o)F", "c(c)(F)F", "n(c)F", "c(c)(-o)F");
    }

    private static void joinedWithJustOne() {
        Checks.sentence("each aromatic c and n is joined with just one other aromatic c or n");
        Checks.areMolecules("cc", "cn", "nc", "nn", "cccc", "c1ccc1", "c1ccccc1", "n1ccccc1", "n1cnccc1", "c1ccccccc1", "cccccccccc", "c1ccccccccc1");
        Checks.areWrong(Checks.ARITHMETIC, "c", "n", "ccc", "cnc", "c1cc1", "c1cccc1", "n1cccc1", "ccccc", "c1cccccc1", "ccccccccc");
        Checks.areWrong(Checks.ARITHMETIC, "cC", "Cc", "cCc", "cCn", "C(c)c");
    }

    private static void eachOnce() {
        Checks.sentence("each of them once");
        // As many as there are is even, but one would have to be joined twice.
        Checks.areWrong(Checks.ARITHMETIC, "c(c)(c)c", "c(c)(c)ccc", "cc(c)cc(c)c", "c(c)(c)ccccccc", "c1c(c)c1c(c)c", "cc(c)c");
        Checks.areMolecules("c(cc)(cc)c", "c(c)cc", "c(c)cccccccc", "c(cc)(cc)ccccc", "c1ccc2c(c1)cccc2", "c1ccccc1cc");
        // A first choice that must be taken back.
        Checks.areMolecules("c1(c)ccc1c", "ccc(cc)c", "c1cccc1c");
    }

    private static void boundByFour() {
        Checks.sentence("that it is bound to by 4");
        Checks.areMolecules("cc-cc", "c1ccc-1", "cc(-cc)", "c-1ccc1", "c-1ccccc-1");
        Checks.areWrong(Checks.ARITHMETIC, "c-c", "n-n", "cc-c-cc", "c-cc-c", "c1-c-c-c-1", "c-1ccccc1-c", "c(-c)c-c");
    }

    private static void oAndSAreJoinedWithNone() {
        Checks.sentence("(An o or s is joined with none.)");
        Checks.areMolecules("cco", "occo", "ccocc", "c1ccoc1", "c1ccsc1", "scc", "o1ccocc1");
        Checks.areWrong(Checks.ARITHMETIC, "co", "oc", "cs", "no", "coc", "coccoc", "cccos", "c1ccocc1", "c1cocc1c", "cocc");
    }

    private static void withoutAnyThereIsOne() {
        Checks.sentence("Without any c or n there is one.");
        Checks.areMolecules("C", "CN", "o", "s", "oo", "os", "o-o", "oC", "o1oo1", "o1ooooo1", "oooooooooo", "FoF", "C=O");
    }
}
