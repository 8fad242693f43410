/** The edges of PATTERNS and of A PATTERN IS IN, a sentence of the document each. */
final class PatternEdgesTest {
    private static final String ELEMENTS = "CNOSF";
    private static final String[] ATOMS = {"C", "c", "o", "*", "[C,N]", "[N+]", "[CH4]", "F"};

    public static void main(String[] args) {
        likeMolecules();
        anyAtom();
        twoToFourElements();
        oneOfThese();
        noHydrogensNoCharge();
        anyBond();
        betweenAnyTwoAtoms();
        notInMolecules();
        hydrogensAreNotLookedAt();
        valencesAreNotLookedAt();
        tenAtoms();
        nothingMakes();
        anyBondOfStarsAndLists();
        linksOfAPair();
        differentAtoms();
        eachBondIsThere();
        theSameNumber();
        eachAtomFits();
        Checks.end();
    }

    private static void likeMolecules() {
        Checks.sentence("PATTERNS are texts like molecules");
        for (char code = 33; code <= 126; code++) {
            String text = String.valueOf(code);
            boolean atom = "CNOSFcnos*".indexOf(code) >= 0;
            boolean link = "-=#~".indexOf(code) >= 0;
            if (atom) {
                Checks.arePatterns(text);
            } else {
                Checks.areWrongPatterns(Checks.ARGUMENT, text);
            }
            if (atom || link) {
                Checks.arePatterns("*" + text + "*");
            } else {
                Checks.areWrongPatterns(Checks.ARGUMENT, "*" + text + "*");
            }
        }
        Checks.arePatterns("C", "CC", "C1CC1", "C(C)C", "*(*)*", "*1(*)**1", "[CH3]C", "*~1(=*)**1");
        Checks.areWrongPatterns(Checks.ARGUMENT, "", "(*)", "*()", "*(", "*)", "1", "*0", "*1", "*11", "*1*1", "-*", "*-", "~*", "*~", "*--*", "*~~*", "*-~*");
        Checks.areWrongPatterns(Checks.ARGUMENT, "*(~)", "*(*)1**1", "*(1**1)", "*.*", "**X", "c=c", "o#C", "[CH5]", "[c]");
    }

    private static void anyAtom() {
        Checks.sentence("an atom may also be * (any atom)");
        Checks c = Checks.with("C", "N", "O", "S", "F", "o", "s", "[NH4+]", "[OH-]", "[CH3+]", "[CH3-]", "[F-]");
        c.finds("*", "1 2 3 4 5 6 7 8 9 10 11 12");
        Checks.with("cc", "nn").finds("*", "1 2");
        Checks.areWrongPatterns(Checks.ARGUMENT, "[*]", "[*H]", "[*+]", "[C,*]", "[*,C]");
    }

    private static void twoToFourElements() {
        Checks.sentence("or [ and two to four elements with , between and ]");
        Checks.arePatterns("[C]", "[C,N]", "[C,N,O]", "[C,N,O,S]", "[F,S]", "[C,C]", "[F,F,F,F]");
        Checks.areWrongPatterns(Checks.ARGUMENT, "[]", "[C,N,O,S,F]", "[C,C,C,C,C]", "[C,N,O,S,F,C]", "[,]", "[C,]", "[,C]", "[C,N,]", "[C,N,O,S,]");
        Checks.areWrongPatterns(Checks.ARGUMENT, "[C,,N]", "[CN]", "[C,NO]", "[C;N]", "[C-N]", "[C,N", "C,N", "C,N]", "[C,N)", "[[C,N]]", "[C,[N]]");
        for (char letter = 33; letter <= 126; letter++) {
            String first = "[" + letter + ",C]";
            String last = "[C,N,O," + letter + "]";
            if (ELEMENTS.indexOf(letter) >= 0) {
                Checks.arePatterns(first, last);
            } else {
                Checks.areWrongPatterns(Checks.ARGUMENT, first, last);
            }
        }
    }

    private static void oneOfThese() {
        Checks.sentence("(one of these, aromatic or not");
        for (int set = 0; set < 32; set++) {
            int many = Integer.bitCount(set);
            if (many >= 2 && many <= 4) {
                // One molecule of each element, and then four of aromatic atoms.
                Checks c = Checks.with("C", "N", "O", "S", "F", "cc", "nn", "o", "s");
                c.finds(listOf(set), idsOf(set));
            }
        }
    }

    private static String listOf(int set) {
        StringBuilder list = new StringBuilder();
        for (int element = 0; element < 5; element++) {
            list.append((set >> element & 1) == 0 ? "" : "," + ELEMENTS.charAt(element));
        }
        return "[" + list.substring(1) + "]";
    }

    private static String idsOf(int set) {
        StringBuilder ids = new StringBuilder();
        for (int id = 1; id <= 9; id++) {
            ids.append((set >> (id - 1) % 5 & 1) == 0 ? "" : " " + id);
        }
        return ids.substring(1);
    }

    private static void noHydrogensNoCharge() {
        Checks.sentence("no hydrogens, no charge)");
        Checks.areWrongPatterns(Checks.ARGUMENT, "[CH,N]", "[C,NH]", "[C,NH2]", "[CH2,N]", "[C+,N]", "[C,N+]", "[C,N-]", "[C-,N]", "[C,NH4+]", "[C,H]", "[H,C]");
        // A list says nothing of the charge of the atoms that it stands for.
        Checks c = Checks.with("N", "[NH4+]", "[NH2-]", "[CH3+]", "F");
        c.finds("[N,O]", "1 2 3");
        c.finds("[C,N]", "1 2 3 4");
    }

    private static void anyBond() {
        Checks.sentence("and a link also ~ (any bond");
        Checks c = Checks.with("CC", "C=C", "C#C", "cc", "C", "CN");
        c.finds("C~C", "1 2 3");
        c.finds("c~c", "4");
        c.finds("*~*", "1 2 3 4 6");
        c.finds("C(~C)", "1 2 3");
        Checks rings = Checks.with("C1CC1", "C=1CC1", "CCC");
        rings.finds("C~1CC1", "1 2");
        rings.finds("C1CC~1", "1 2");
        rings.finds("C~1CC~1", "1 2");
        rings.finds("C1CC1", "1");
    }

    private static void betweenAnyTwoAtoms() {
        Checks.sentence("it may stand between any two atoms)");
        for (String first : ATOMS) {
            for (String second : ATOMS) {
                Checks.arePatterns(first + "~" + second, first + "(~" + second + ")", first + "~1C" + second + "1", first + "1C" + second + "~1");
            }
        }
    }

    private static void notInMolecules() {
        Checks.sentence("in which an atom may also be * .. and a link also ~ (not in molecules)");
        Checks.areWrong(Checks.ARGUMENT, "*", "C*", "*C", "C~C", "C(~C)", "C~1CC1", "C1CC~1", "[C,N]", "C[C,N,O]", "[C,N,O,S]");
    }

    private static void hydrogensAreNotLookedAt() {
        Checks.sentence("hydrogens of atoms in brackets .. are not looked at");
        Checks c = Checks.with("C", "CC", "C(F)(F)(F)F", "[CH3+]");
        for (String pattern : new String[] {"C", "[C]", "[CH]", "[CH2]", "[CH3]", "[CH4]"}) {
            c.finds(pattern, "1 2 3");
        }
        for (String pattern : new String[] {"[C+]", "[CH+]", "[CH2+]", "[CH3+]", "[CH4+]"}) {
            c.finds(pattern, "4");
        }
    }

    private static void valencesAreNotLookedAt() {
        Checks.sentence("and valences and matchings are not looked at");
        Checks.arePatterns("F=F", "F(F)F", "C(C)(C)(C)(C)C", "O#O", "[C]", "[FH4-]", "[F+]", "o(o)(o)o", "c", "n", "c-c", "ccc", "c1cccc1", "cCc");
        Checks c = Checks.with("c1ccccc1", "c1ccoc1");
        c.finds("c", "1 2");
        c.finds("ccc", "1 2");
        c.finds("ccccc", "1");
        c.finds("coc", "2");
    }

    private static void tenAtoms() {
        Checks.sentence("and a pattern may have at most 10 atoms too");
        Checks.arePatterns("CCCCCCCCCC", "**********", "*~*~*~*~*~*~*~*~*~*", "[C,N]CCCCCCCCC", "cccccccccc", "*1*********1");
        Checks.areWrongPatterns(Checks.UNSUPPORTED, "CCCCCCCCCCC", "***********", "*~*~*~*~*~*~*~*~*~*~*", "[C,N]CCCCCCCCCC", "*1*********1*");
        Checks.areWrongPatterns(Checks.UNSUPPORTED, "*".repeat(40), "F=F=F=F=F=F=F=F=F=F=F");
        Checks c = Checks.with("CCCCCCCCCC", "CCCCCCCCC");
        c.finds("**********", "1");
        c.finds("*********", "1 2");
    }

    private static void nothingMakes() {
        Checks.sentence("A link that is nothing makes 4 between two aromatic atoms and 1 otherwise; * and lists count as not aromatic there");
        Checks c = Checks.with("oo", "o-o", "Co", "CC", "C=C");
        c.finds("oo", "1");
        c.finds("o-o", "2");
        c.finds("o*", "2 3");
        c.finds("*o", "2 3");
        c.finds("o[C,O]", "2 3");
        c.finds("[C,O]o", "2 3");
        c.finds("**", "2 3 4");
        c.finds("[C,O][C,O]", "2 3 4");
        c.finds("*~o", "1 2 3");
        Checks rings = Checks.with("o1oo1", "o-1oo1", "o-1o-o1");
        rings.finds("o1oo1", "1");
        rings.finds("o1~o~*1", "2 3");
        rings.finds("*1~o~o1", "2 3");
    }

    private static void anyBondOfStarsAndLists() {
        Checks.sentence("and may have any bond");
        for (String wild : new String[] {"*", "[C,N]", "[C,N,O,S]"}) {
            for (String link : new String[] {"", "-", "=", "#", "~"}) {
                Checks.arePatterns(wild + link + wild, wild + link + "C", "C" + link + wild, wild + link + "c", "c" + link + wild);
                Checks.arePatterns(wild + link + "1C" + wild + "1", "c" + link + "1C" + wild + "1", wild + "1Cc" + link + "1");
            }
        }
        Checks c = Checks.with("C=O", "C#N", "CC", "cc");
        c.finds("*=*", "1");
        c.finds("*#*", "2");
        c.finds("[C,N]#[C,N]", "2");
        c.finds("[C,O]=*", "1");
        c.finds("c=*", "");
    }

    private static void linksOfAPair() {
        Checks.sentence("Of the two links of a closed pair one may be nothing, then the other counts; otherwise they are the same. (in patterns)");
        String[] links = {"", "-", "=", "#", "~"};
        for (int first = 0; first < 5; first++) {
            for (int second = 0; second < 5; second++) {
                String text = "*" + links[first] + "1**" + links[second] + "1";
                if (first == 0 || second == 0 || first == second) {
                    Checks.arePatterns(text);
                } else {
                    Checks.areWrongPatterns(Checks.ARGUMENT, text);
                }
            }
        }
    }

    private static void differentAtoms() {
        Checks.sentence("atoms can be put to different atoms of it");
        Checks c = Checks.with("C", "CC", "CCC", "C1CC1", "CC(C)C");
        c.finds("**", "2 3 4 5");
        c.finds("***", "3 4 5");
        c.finds("****", "");
        c.finds("*(*)*", "3 4 5");
        c.finds("*(*)(*)*", "5");
        c.finds("C(C)C", "3 4 5");
        c.finds("*1**1", "4");
        // Walks that could only be made by going back over an atom.
        Checks d = Checks.with("CC(C)CC", "C1CC1C", "CCCCC");
        d.finds("CCCCC", "3");
        d.finds("*~*~*~*~*", "3");
        d.finds("C1CCC1", "");
        d.finds("CCCC", "1 2 3");
        // Others may be left over, and may be bound where the pattern has no bond.
        c.finds("C", "1 2 3 4 5");
        c.finds("CCC", "3 4 5");
    }

    private static void eachBondIsThere() {
        Checks.sentence("so that each bond of the pattern is there");
        Checks c = Checks.with("CCCC", "C1CCC1", "C1CC1C", "C12CC1C2");
        c.finds("C1CCC1", "2 4");
        c.finds("C1CC1", "3 4");
        c.finds("C1CC1C", "3 4");
        c.finds("C12CC1C2", "4");
        c.finds("CCCC", "1 2 3 4");
        c.finds("*~1~*~*~*~1", "2 4");
        c.finds("*~1~*~*~1", "3 4");
    }

    private static void theSameNumber() {
        Checks.sentence("with the same number (any for ~)");
        Checks c = Checks.with("CC", "C=C", "C#C", "oo", "o-o");
        c.finds("*-*", "1 5");
        c.finds("*=*", "2");
        c.finds("*#*", "3");
        c.finds("oo", "4");
        c.finds("o-o", "5");
        c.finds("o~o", "4 5");
        c.finds("*~*", "1 2 3 4 5");
        Checks rings = Checks.with("C1CC1", "C=1CC1", "C#1CCCCCCCC1");
        rings.finds("C=1CC1", "2");
        rings.finds("C#1CCCCCCCC1", "3");
        rings.finds("C-1CC1", "1");
    }

    private static void eachAtomFits() {
        Checks.sentence("and each atom fits: element, whether aromatic, and charge alike, or * or the list.");
        Checks c = Checks.with("O", "S", "o", "s", "[OH-]", "[OH3+]", "cc", "C", "[CH3+]", "[CH3-]", "[SH-]", "[SH3+]");
        String[] patterns = {"O", "S", "o", "s", "[O-]", "[O+]", "c", "C", "[C+]", "[C-]", "[S-]", "[S+]"};
        for (int i = 0; i < 12; i++) {
            c.finds(patterns[i], String.valueOf(i + 1));
        }
        c.finds("[O]", "1");
        c.finds("N", "");
        c.finds("n", "");
        c.finds("[F,N]", "");
        c.finds("[O,S]", "1 2 3 4 5 6 11 12");
    }
}
