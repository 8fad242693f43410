/** The edges of TEXTS: what is still a molecule and what is none, a sentence of the document each. */
final class TextEdgesTest {
    private static final String[] LINKS = {"", "-", "=", "#"};

    public static void main(String[] args) {
        aMoleculeIsAnAtomAtLeast();
        anyNumberOfClosures();
        anyNumberOfParts();
        partsInBrackets();
        theLastPart();
        digits();
        links();
        letters();
        brackets();
        elements();
        hydrogens();
        charges();
        closuresBeforeParts();
        numberedFromZero();
        boundToTheOwner();
        theNextOneCloses();
        theDigitMayOpenAnew();
        bondsOfLinks();
        linksOfAPair();
        aFourIsOnlyMadeSo();
        bondsOfAromaticAtoms();
        Checks.end();
    }

    private static void aMoleculeIsAnAtomAtLeast() {
        Checks.sentence("molecule = atom, any number of closures, any number of parts.");
        Checks.areWrong(Checks.ARGUMENT, "", "1", "-", "(C)", "(", ")", "-C", "1C", "=1C", "C11", "[", "[]");
        Checks.areMolecules("C", "[CH4]", "o");
    }

    private static void anyNumberOfClosures() {
        Checks.sentence("any number of closures");
        Checks.areMolecules("CCC", "C1CC1", "C12CC1C2", "C123CC1C2C3", "C1CC12CC2", "C123C45C67C89C14C26C35C78C9");
        // Four closures and a part are one bond too many for the valence, but not for the form.
        Checks.areWrong(Checks.ARITHMETIC, "C1234CC1C2C3C4");
        Checks.arePatterns("*12345678*(*1)(*2)(*3)(*4)(*5)(*6)(*7)*8", "*123*456*789*14*257*368*9");
    }

    private static void anyNumberOfParts() {
        Checks.sentence("any number of parts");
        Checks.areMolecules("C", "CC", "C(C)C", "C(C)(C)C", "C(C)(C)(C)C", "C(C)", "C(C)(C)(C)(C)", "C(C(C(C(C(C(C(C(C(C)))))))))");
        Checks.areWrong(Checks.ARITHMETIC, "C(C)(C)(C)(C)C", "C(C)(C)(C)(C)(C)(C)(C)(C)C");
        Checks.arePatterns("*(*)(*)(*)(*)(*)(*)(*)(*)*", "*(*)(*)(*)(*)(*)(*)(*)(*)(*)");
    }

    private static void partsInBrackets() {
        Checks.sentence("part = ( link molecule )");
        Checks.areMolecules("C(C)", "C(-C)", "C(=C)", "C(#C)", "C(C1CC1)", "C(C(C)C)C");
        Checks.areWrong(Checks.ARGUMENT, "C()", "C(-)", "C(=)C", "C(1)", "C((C))", "C((C)C)", "C(C", "C(C(C)", "C(C))", "C)", "C)C");
        Checks.areWrong(Checks.ARGUMENT, "C-(C)", "C=(C)C", "C(--C)", "C(C=)", "C(C-)C", "C(" + "(".repeat(38), "C" + ")".repeat(39));
        Checks.areWrong(Checks.ARGUMENT, "(".repeat(40), "C(C(C(C(C(C(C(C(C(C))))))))", "C(C(C(C(C(C(C(C(C(C))))))))))");
    }

    private static void theLastPart() {
        Checks.sentence("or link molecule as the last part");
        // What stands behind a part without brackets belongs to that part.
        Checks c = Checks.with("CN(O)S", "C(N)(O)S");
        Checks.due("S of the first is bound to N", c.registry.bond(1, 1, 3), 1);
        Checks.due("S of the first is not bound to C", c.registry.bond(1, 0, 3), 0);
        Checks.due("S of the second is bound to C", c.registry.bond(2, 0, 3), 1);
        Checks.due("S of the second is not bound to N", c.registry.bond(2, 1, 3), 0);
        Checks.areWrong(Checks.ARGUMENT, "C-", "C=", "C#", "CC-", "C(C)-", "C1CC1=");
    }

    private static void digits() {
        Checks.sentence("closure = link, a digit 1 .. 9.");
        for (char digit = 33; digit <= 126; digit++) {
            String ring = "C" + digit + "CC" + digit;
            if (digit >= '1' && digit <= '9') {
                Checks.areMolecules(ring);
                Checks.due(ring, Checks.with("C1CC1").lookup(ring), 1);
            } else if (!Character.isLetter(digit)) {
                Checks.areWrong(Checks.ARGUMENT, ring);
            }
        }
        Checks.areWrong(Checks.ARGUMENT, "C10CC10", "C0", "C-0CC-0", "C%12CC%12");
        Checks.areMolecules("C-9CC-9", "C=1CC=1");
    }

    private static void links() {
        Checks.sentence("link = nothing, or one of - = #.");
        for (char link = 33; link <= 126; link++) {
            String text = "C" + link + "C";
            if ("-=#".indexOf(link) >= 0) {
                Checks.areMolecules(text);
            } else if (!Character.isLetter(link)) {
                Checks.areWrong(Checks.ARGUMENT, text, "C(" + link + "C)", "C" + link + "1CC1");
            }
        }
        for (String first : new String[] {"-", "=", "#"}) {
            for (String second : new String[] {"-", "=", "#", "~"}) {
                Checks.areWrong(Checks.ARGUMENT, "C" + first + second + "C", "C(" + first + second + "C)", "C" + first + second + "1CC1");
            }
        }
    }

    private static void letters() {
        Checks.sentence("atom = one of C N O S F, or c n o s (AROMATIC)");
        for (char letter = 33; letter <= 126; letter++) {
            String text = String.valueOf(letter);
            if ("CNOSFos".indexOf(letter) >= 0) {
                Checks.areMolecules(text, "F" + text);
            } else if ("cn".indexOf(letter) >= 0) {
                // A single one is of the form, but has none to be joined with.
                Checks.areWrong(Checks.ARITHMETIC, text);
                Checks.areMolecules(text + text);
            } else {
                Checks.areWrong(Checks.ARGUMENT, text, text + "C");
            }
        }
        Checks.areWrong(Checks.ARGUMENT, "Cf", "fC", "CH4", "Cl", "Br", "CP");
    }

    private static void brackets() {
        Checks.sentence("or [ element hydrogens charge ]");
        Checks.areMolecules("[CH4]", "[CH3+]", "[CH3-]", "[F-]", "[CH3][CH3]", "C[OH]");
        Checks.areWrong(Checks.ARGUMENT, "[CH4", "CH4]", "[[CH4]]", "[CH4]]", "[[CH4]", "[+CH3]", "[H3C+]", "[C+H3]", "[H4C]", "[CH3+", "[C");
        Checks.areWrong(Checks.ARGUMENT, "[CH3-C]", "[C1H3]C1", "[C(H4)]", "[CC]", "[]C", "[CH4)", "(CH4]", "[C H4]".replace(' ', '.'));
    }

    private static void elements() {
        Checks.sentence("element = one of C N O S F.");
        for (char letter = 33; letter <= 126; letter++) {
            String text = "[" + letter + "]";
            if ("CNOSF".indexOf(letter) >= 0) {
                Checks.areWrong(Checks.ARITHMETIC, text);
                Checks.arePatterns(text);
            } else {
                Checks.areWrong(Checks.ARGUMENT, text, "[" + letter + "H]", "[" + letter + "-]");
                Checks.areWrongPatterns(Checks.ARGUMENT, text, "[" + letter + "H2+]");
            }
        }
    }

    private static void hydrogens() {
        Checks.sentence("hydrogens = nothing, H, or H and a digit 2 .. 4.");
        Checks.areMolecules("[F-]", "[FH]", "[OH2]", "[NH3]", "[CH4]");
        String[] written = {"[C](F)(F)(F)F", "[CH](F)(F)F", "[CH2](F)F", "[CH3]F", "[CH4]"};
        for (int h = 0; h <= 4; h++) {
            Checks c = Checks.with(written[h]);
            Checks.due("hydrogens of " + written[h], c.registry.atom(1, 0), 'C' + 256 * h + 4096);
        }
        for (char digit = 33; digit <= 126; digit++) {
            String text = "[CH" + digit + "]";
            if ("234+-".indexOf(digit) >= 0) {
                Checks.arePatterns(text);
            } else {
                Checks.areWrong(Checks.ARGUMENT, text);
                Checks.areWrongPatterns(Checks.ARGUMENT, text);
            }
        }
        Checks.areWrong(Checks.ARGUMENT, "[CH0]", "[CH1]", "[CH5]", "[CH22]", "[CH04]", "[C4]", "[C2H]", "[CHH]", "[CH2H2]");
    }

    private static void charges() {
        Checks.sentence("charge = nothing, + or -.");
        Checks.areMolecules("[NH3]", "[NH4+]", "[NH2-]");
        Checks.areWrong(Checks.ARGUMENT, "[NH4++]", "[NH2--]", "[NH3+-]", "[NH3-+]", "[NH4+1]", "[NH4+2]", "[NH2-1]", "N+", "N-");
        for (char charge = 33; charge <= 126; charge++) {
            String text = "[N" + charge + "]";
            if ("+-H".indexOf(charge) >= 0) {
                Checks.arePatterns(text);
            } else {
                Checks.areWrong(Checks.ARGUMENT, text);
            }
        }
    }

    private static void closuresBeforeParts() {
        Checks.sentence("As much as can be is read as a closure before a part is looked for (so a link with a digit behind it is a closure).");
        Checks c = Checks.with("C=1CC1", "C=1-2CC1CC2", "C1-2-3CC1C2C3");
        Checks.due("the closure's bond", c.registry.bond(1, 0, 2), 2);
        Checks.due("the part's bond", c.registry.bond(1, 0, 1), 1);
        Checks.due("the second closure of an atom", c.registry.bond(2, 0, 4), 1);
        Checks.due("the first closure of an atom", c.registry.bond(2, 0, 2), 2);
        Checks.due("the third closure of an atom", c.registry.bond(3, 0, 4), 1);
        Checks.areMolecules("C=1=CC1", "C1=CC1", "C-1-CC-1", "C1(CC1)", "C1(C)CC1");
        Checks.areWrong(Checks.ARGUMENT, "C(C)1CC1", "C(1CC1)", "C(=1CC1)", "C(C)=1CC=1", "C1CC(1)", "C1CC(C)1", "C1CC=(1)");
    }

    private static void numberedFromZero() {
        Checks.sentence("The atoms are numbered from 0 as they stand.");
        Checks c = Checks.with("C(N(F)S)(C(O)F)[OH]");
        String letters = "CNFSCOFO";
        for (int i = 0; i < 8; i++) {
            Checks.due("letter of atom " + i, (char) (c.registry.atom(1, i) & 127), letters.charAt(i));
        }
        Checks.due("atoms", c.registry.atoms(1), 8);
        Checks.due("atom -1", c.registry.atom(1, -1), 0);
        Checks.due("atom 8", c.registry.atom(1, 8), 0);
    }

    private static void boundToTheOwner() {
        Checks.sentence("A part's first atom is bound to the atom that the part belongs to.");
        bonds("C(N(F)S)(C(O)F)[OH]", "0-1 1-2 1-3 0-4 4-5 4-6 0-7");
        bonds("C(C(C(C)))C", "0-1 1-2 2-3 0-4");
        bonds("C(C(C(C)C)C)C", "0-1 1-2 2-3 2-4 1-5 0-6");
        bonds("CC(C)C(C)(C)C", "0-1 1-2 1-3 3-4 3-5 3-6");
    }

    /** All its bonds are singles, and these. */
    private static void bonds(String text, String pairs) {
        Checks c = Checks.with(text);
        for (int i = 0; i < c.registry.atoms(1); i++) {
            for (int j = 0; j < i; j++) {
                boolean there = (" " + pairs + " ").contains(" " + j + "-" + i + " ");
                Checks.due("bond " + j + " " + i + " of " + text, c.registry.bond(1, i, j), there ? 1 : 0);
            }
        }
    }

    private static void theNextOneCloses() {
        Checks.sentence("The first closure with a digit opens it, the next one closes it: the two atoms are bound");
        bonds("C1CC1", "0-1 1-2 0-2");
        bonds("C1CC2C1C2", "0-1 1-2 2-3 0-3 3-4 2-4");
        bonds("C12CC1C2", "0-1 1-2 0-2 2-3 0-3");
        bonds("C(C1)CC1", "0-1 0-2 2-3 1-3");
        // Digits that are open do not disturb one another, whichever is closed first.
        bonds("C1C2CC1C2", "0-1 1-2 2-3 0-3 3-4 1-4");
        bonds("C9C8CC8C9", "0-1 1-2 2-3 1-3 3-4 0-4");
    }

    private static void theDigitMayOpenAnew() {
        Checks.sentence("and the digit may open anew");
        bonds("C1CC1C1CC1", "0-1 1-2 0-2 2-3 3-4 4-5 3-5");
        bonds("C1CC11CC1", "0-1 1-2 0-2 2-3 3-4 2-4");
        bonds("C9CC99CC9", "0-1 1-2 0-2 2-3 3-4 2-4");
        bonds("C1CC1C1CC1C1CC1", "0-1 1-2 0-2 2-3 3-4 4-5 3-5 5-6 6-7 7-8 6-8");
        Checks c = Checks.with("C=1CC1C1CC1");
        Checks.due("the link is forgotten, too", c.registry.bond(1, 3, 5), 1);
        Checks.areWrong(Checks.ARGUMENT, "C1CC11", "C1CC1C1", "C1CC11CC", "C1CC111CC1");
    }

    private static void bondsOfLinks() {
        Checks.sentence("BONDS are 1 (-), 2 (=), 3 (#), or 4 (aromatic): a link that is nothing makes 4 between two aromatic atoms, 1 otherwise.");
        String[] texts = {"CC", "C-C", "C=C", "C#C", "cc", "o-o", "oo", "Co", "oC", "C-o", "s(C)o", "cc"};
        int[] kinds = {1, 1, 2, 3, 4, 1, 4, 1, 1, 1, 1, 4};
        for (int n = 0; n < texts.length; n++) {
            Checks c = Checks.with(texts[n]);
            Checks.due("bond of " + texts[n], c.registry.bond(1, 0, 1), kinds[n]);
            Checks.due("bond back of " + texts[n], c.registry.bond(1, 1, 0), kinds[n]);
        }
        // The same by a closure.
        Checks c = Checks.with("C1CC1", "C=1CC1", "C#1CCCCCCCC1", "o1oo1", "o-1oo1", "C1Co1", "o1CCC1");
        int[] last = {2, 2, 8, 2, 2, 2, 3};
        int[] due = {1, 2, 3, 4, 1, 1, 1};
        for (int id = 1; id <= 7; id++) {
            Checks.due("closure of " + id, c.registry.bond(id, 0, last[id - 1]), due[id - 1]);
        }
    }

    private static void linksOfAPair() {
        Checks.sentence("Of the two links of a closed pair one may be nothing, then the other counts; otherwise they are the same.");
        for (int first = 0; first < 4; first++) {
            for (int second = 0; second < 4; second++) {
                String text = "C" + LINKS[first] + "1CCCCCCC" + LINKS[second] + "1";
                boolean fits = first == 0 || second == 0 || first == second;
                if (fits) {
                    Checks c = Checks.with(text);
                    Checks.due("closure of " + text, c.registry.bond(1, 0, 7), Math.max(1, Math.max(first, second)));
                } else {
                    Checks.areWrong(Checks.ARGUMENT, text);
                }
            }
        }
        Checks c = Checks.with("o1oo-1", "o-1ooo1", "o-1oooo-1", "o1ooooo1");
        Checks.due("nothing, then -", c.registry.bond(1, 0, 2), 1);
        Checks.due("-, then nothing", c.registry.bond(2, 0, 3), 1);
        Checks.due("- twice", c.registry.bond(3, 0, 4), 1);
        Checks.due("nothing twice", c.registry.bond(4, 0, 5), 4);
    }

    private static void aFourIsOnlyMadeSo() {
        Checks.sentence("A 4 is only made so");
        for (char link = 33; link <= 126; link++) {
            Checks c = new Checks();
            if (!Character.isLetter(link) && c.register("o" + link + "o").equals("1")) {
                Checks.due("bond of o" + link + "o", c.registry.bond(1, 0, 1), 1);
                Checks.due("the link", link, '-');
            }
        }
        Checks c = Checks.with("oo", "o1oo1", "oC", "Cs", "CC", "o1CC1");
        Checks.due("bonds of aromatic atoms", c.registry.bond(1, 0, 1) + c.registry.bond(2, 0, 2), 8);
        Checks.due("bonds of one aromatic atom", c.registry.bond(3, 0, 1) * 10 + c.registry.bond(4, 0, 1), 11);
        Checks.due("bonds of no aromatic atom", c.registry.bond(5, 0, 1) * 10 + c.registry.bond(6, 1, 2), 11);
        Checks.due("a closure of one aromatic atom", c.registry.bond(6, 0, 2), 1);
    }

    private static void bondsOfAromaticAtoms() {
        Checks.sentence("two aromatic atoms may be bound by 1, but not by 2 or 3, and an aromatic atom to another one by 1 alone");
        Checks.areMolecules("o-o", "oo", "s-o", "cc-cc", "o1oo-1", "o-1oo1", "Co", "C-o", "oC", "o-C", "o1CC1", "o-1CC1", "C1Co-1");
        for (String first : new String[] {"c", "n", "o", "s"}) {
            for (String second : new String[] {"c", "n", "o", "s", "C", "N", "O", "S", "F", "[CH3]"}) {
                for (String link : new String[] {"=", "#"}) {
                    Checks.areWrong(Checks.ARGUMENT, first + link + second, second + link + first, first + "(" + link + second + ")");
                    Checks.areWrong(Checks.ARGUMENT, first + link + "1C" + second + "1", second + "1C" + first + link + "1");
                }
            }
        }
    }
}
