/** The edges of WRONG texts: each kind of them, ten atoms and eleven, and the order in which they are thrown. */
final class WrongEdgesTest {
    // Texts that are WRONG by one kind of IllegalArgumentException alone, each of them with few atoms.
    private static final String[] NO_MOLECULE = {"C(C", "C-", "C0CC0", "[CH5]", "C)C", "fC"};
    private static final String[] OPEN = {"C1CC", "C1", "CC9", "C1CC1C1", "C=1C", "C12CC1"};
    private static final String[] TO_ITSELF = {"C11", "CC11", "C=1=1", "C1CC122", "o11"};
    private static final String[] TWICE = {"C1C1", "C12CC12", "C1(C1)", "C1C=1", "o1o1", "CC1(C)C1", "C1CC1C2C2"};
    private static final String[] DIFFERENT = {"C-1CC=1", "C=1CC-1", "C#1CC=1", "C-1CC#1"};
    private static final String[] AROMATIC = {"o=o", "o=C", "C#s", "s=1CC1", "cc=O", "C=1Co1"};

    public static void main(String[] args) {
        noMolecule();
        aDigitStaysOpen();
        boundToItself();
        boundTwice();
        differentLinks();
        aromaticBonds();
        moreThanTenAtoms();
        argumentBeforeSize();
        argumentBeforeArithmetic();
        sizeBeforeArithmetic();
        downBeforeAll();
        roomBehindAll();
        patternsToo();
        Checks.end();
    }

    private static void noMolecule() {
        Checks.sentence("IllegalArgumentException: it is no molecule as said");
        Checks.areWrong(Checks.ARGUMENT, NO_MOLECULE);
        Checks.areWrong(Checks.ARGUMENT, "", "*", "C~C", "[C,N]", "C.C");
    }

    private static void aDigitStaysOpen() {
        Checks.sentence("or a digit stays open");
        Checks.areWrong(Checks.ARGUMENT, OPEN);
        for (char digit = '1'; digit <= '9'; digit++) {
            Checks.areWrong(Checks.ARGUMENT, "C" + digit, "CC" + digit + "C", "C" + digit + "CC" + digit + "C" + digit);
            Checks.areMolecules("C" + digit + "CC" + digit + "C");
        }
    }

    private static void boundToItself() {
        Checks.sentence("an atom is bound to itself");
        Checks.areWrong(Checks.ARGUMENT, TO_ITSELF);
    }

    private static void boundTwice() {
        Checks.sentence("two atoms are bound twice");
        Checks.areWrong(Checks.ARGUMENT, TWICE);
        Checks.areMolecules("C1CC1", "C12CC1C2");
    }

    private static void differentLinks() {
        Checks.sentence("two links of a pair are different");
        Checks.areWrong(Checks.ARGUMENT, DIFFERENT);
        Checks.areMolecules("C-1CC-1", "C=1CC=1", "C#1CCCCCCCC#1");
    }

    private static void aromaticBonds() {
        Checks.sentence("or an aromatic atom has a bond that it can't have");
        Checks.areWrong(Checks.ARGUMENT, AROMATIC);
        Checks.areMolecules("o-o", "oC", "ccO");
    }

    private static void moreThanTenAtoms() {
        Checks.sentence("UnsupportedOperationException: it has more than 10 atoms.");
        for (int size = 1; size <= 40; size++) {
            String text = "C".repeat(size);
            if (size <= 10) {
                Checks.areMolecules(text);
                Checks.due("atoms of " + text, Checks.with(text).registry.atoms(1), size);
            } else {
                Checks.areWrong(Checks.UNSUPPORTED, text);
            }
        }
        Checks.areMolecules("[CH3]CCCCCCCC[CH3]", "C1CCCCCCCCC1", "CCCCCCCC(C)C", "C(CCCCCCCCC)", "cccccccccc", "oooooooooo");
        Checks.areWrong(Checks.UNSUPPORTED, "[CH3]CCCCCCCCC[CH3]", "C1CCCCCCCCCC1", "CCCCCCCCC(C)C", "C(CCCCCCCCCC)", "ooooooooooo");
        Checks.areWrong(Checks.UNSUPPORTED, "C(C(C(C(C(C(C(C(C(C(C(C(C(C)))))))))))))", "C1CC1C1CC1C1CC1C1CC1C1CC1C1CC1");
    }

    /** The text with so many atoms before it that there are more than ten. */
    private static String large(String text) {
        return "CCCCCCCCCC" + text;
    }

    private static void argumentBeforeSize() {
        Checks.sentence("WRONG texts, in this order (the first kind that a text has is thrown) (IllegalArgumentException, UnsupportedOperationException)");
        String[][] kinds = {NO_MOLECULE, OPEN, TO_ITSELF, TWICE, DIFFERENT, AROMATIC};
        for (String[] kind : kinds) {
            for (String text : kind) {
                Checks.areWrong(Checks.ARGUMENT, large(text));
            }
        }
        // The wrong place first, or only seen at the very end.
        Checks.areWrong(Checks.ARGUMENT, "C11CCCCCCCCCCC", "C1C1CCCCCCCCCC", "o=oCCCCCCCCCCC", "C1CCCCCCCCCCCCC", "CCCCCCCCCCCCCCCC)");
        Checks.areWrong(Checks.ARGUMENT, "C".repeat(39) + "1", "C".repeat(39) + "-", "C".repeat(39) + "X");
    }

    private static void argumentBeforeArithmetic() {
        Checks.sentence("WRONG texts, in this order (the first kind that a text has is thrown) (IllegalArgumentException, ArithmeticException)");
        String[][] kinds = {NO_MOLECULE, OPEN, TO_ITSELF, TWICE, DIFFERENT, AROMATIC};
        for (String[] kind : kinds) {
            for (String text : kind) {
                // An F with two bonds, and a c that has none to be joined with.
                Checks.areWrong(Checks.ARGUMENT, "CF" + text, "cC" + text);
            }
        }
        Checks.areWrong(Checks.ARITHMETIC, "CFC", "cC");
        Checks.areWrong(Checks.ARGUMENT, "F=F(", "O#O1", "[C]1", "c1", "c)");
    }

    private static void sizeBeforeArithmetic() {
        Checks.sentence("WRONG texts, in this order (the first kind that a text has is thrown) (UnsupportedOperationException, ArithmeticException)");
        Checks.areWrong(Checks.UNSUPPORTED, large("FC"), "FFCCCCCCCCCC", "F=FCCCCCCCCC", "[C]CCCCCCCCCC", large("c"), "ccccccccccc", "cCCCCCCCCCC");
        Checks.areWrong(Checks.UNSUPPORTED, large("F=F"), large("[CH4]"), large("[C]"), "CFCCCCCCCCC");
        Checks.areWrong(Checks.ARITHMETIC, "F=FCCCCCCCC", "[C]CCCCCCCCC", "ccccccccc", "cCCCCCCCCC");
    }

    private static void downBeforeAll() {
        Checks.sentence("IllegalStateException when the registry is DOWN; then what is thrown for WRONG texts");
        for (int n = 1; n <= 4; n++) {
            for (String text : new String[] {"", "C(", "C1C1", large("C"), "F=F", "c", "CC", "CO"}) {
                Checks c = Checks.downAt(n, "CC");
                Checks.due("register of " + text, c.register(text), Checks.STATE);
                Checks.due("lookup of " + text, c.lookup(text), Checks.STATE);
                Checks.due("search of " + text, c.search(text), Checks.STATE);
            }
        }
    }

    private static void roomBehindAll() {
        Checks.sentence("then IndexOutOfBoundsException when it is new and there are 12.");
        Checks c = Checks.with(Checks.TWELVE);
        Checks.due("no molecule", c.register("C("), Checks.ARGUMENT);
        Checks.due("no text", c.register(""), Checks.ARGUMENT);
        Checks.due("eleven atoms", c.register(large("C")), Checks.UNSUPPORTED);
        Checks.due("a wrong valence", c.register("F=F"), Checks.ARITHMETIC);
        Checks.due("no matching", c.register("c"), Checks.ARITHMETIC);
        Checks.due("a new one", c.register("NS"), Checks.INDEX);
        Checks.due("not a new one", c.register("ON"), 12);
        Checks.due("lookup has no room to look at", c.lookup("NS"), 0);
        Checks down = Checks.with(Checks.TWELVE);
        down.registry.fail(1);
        Checks.due("a failure", down.remove(1), -2);
        Checks.due("DOWN and full", down.register("NS"), Checks.STATE);
    }

    private static void patternsToo() {
        Checks.sentence("IllegalStateException when the registry is DOWN; then IllegalArgumentException and UnsupportedOperationException as said.");
        String[][] kinds = {NO_MOLECULE, OPEN, TO_ITSELF, TWICE, DIFFERENT, AROMATIC};
        for (String[] kind : kinds) {
            for (String text : kind) {
                Checks.areWrongPatterns(Checks.ARGUMENT, text, large(text), "CF" + text);
            }
        }
        Checks.areWrongPatterns(Checks.UNSUPPORTED, large("C"), large("*"), large("[C,N]"), large("F=F"), "*".repeat(40));
    }
}
