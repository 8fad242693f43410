/** Promises 4 and 5: which texts are molecules, and what is thrown for the others. */
final class TextTest {
    public static void main(String[] args) {
        molecules();
        notOfTheForm();
        notOfTheFormOfAtoms();
        badBonds();
        tooLarge();
        valences();
        matchings();
        theOrderOfWrongs();
        whileDownAndFull();
        Checks.end();
    }

    private static void all(String want, String... texts) {
        for (String text : texts) {
            Checks c = new Checks();
            Checks.due("register of " + text, c.register(text), want);
            Checks.due("lookup of " + text, c.lookup(text), want);
            Checks.due("count after " + text, c.registry.count(), want.equals("1") ? 1 : 0);
        }
    }

    private static void molecules() {
        all("1", "C", "CC", "C-C", "C=C", "C#C", "N", "O", "S", "F", "FF", "N#N", "C(C)C", "C(C)(C)C", "C(C(C))");
        all("1", "C(=O)O", "C(-C)(=O)", "C(C(C)(C)C)", "C(C)(C)(C)C", "N(C)(C)C");
        all("1", "C1CC1", "C1CC-1", "C-1CC1", "C-1CC-1", "C=1CC=1", "C=1CC1", "C1CC=1", "C1CCC1C1CC1", "C12CC1C2");
        all("1", "C1CC1(C)C", "C9CC9", "C(C1)CC1", "C1(CC1)", "C1(C(C1))", "C1CC1CC1CC1", "C12CC1CC2");
        all("1", "CCCCCCCCCC", "C1=CC=CC=C1", "C1CC=1C", "C123CC1C2C3", "C=1=CC1");
        all("1", "cc", "oo", "o", "s", "so", "c1ccccc1", "c1ccncc1", "c1ccoc1", "c1ccsc1", "c1ccc1", "c1ccccc1C", "c1ccccc1-C");
        // Two aromatic atoms may be bound by 1: as a part, and by a closure with its link on either side.
        all("1", "cc-cc", "c1ccc-1", "c-1ccc1", "c-1ccc-1", "c1ccc2c(c1)cccc2", "o-o", "Cs", "C-s", "s(C)C", "o1oo1");
    }

    private static void notOfTheForm() {
        all(Checks.ARGUMENT, "(C)", "()", "C()", "C(", "C)", "C(C", "C(C))", "C((C))", "C(C)C)", ")", "(", "C(C)(");
        all(Checks.ARGUMENT, "-", "=C", "-C", "C-", "C=", "CC#", "C--C", "C=-C", "C(=)", "C=(C)", "C(C=)", "C(-)C", "C#()");
        all(Checks.ARGUMENT, "1", "1C", "C(C)1CC1", "C(1CC1)", "C(=1CC1)", "C0CC0", "C1CC1-", "C==1CC1", "C=1=");
        all(Checks.ARGUMENT, "C.C", "C:C", "C~C", "*", "C*", "C$C", "C%10CC%10", "C/C", "c:c", "C+", "H", "h");
        all(Checks.ARGUMENT, "B", "P", "f", "Cl", "I", "p", "X", "x", "!", "~", "C,N", "]", "[", "[]", "C]", "C[");
        all(Checks.ARGUMENT, "C~1CC~1", "C~1CC1", "[C,N]", "C[N,O]", "[C,N,O]");
    }

    private static void notOfTheFormOfAtoms() {
        all(Checks.ARGUMENT, "[CH4", "[C", "[CH", "[CH3-", "CH4]", "[c]", "[cH]", "[nH]", "[H]", "[H2]", "[H4C]", "[+C]");
        all(Checks.ARGUMENT, "[CH0]", "[CH1]C", "[CH5]", "[CH9]", "[CH44]", "[CHH]", "[C4]", "[NH4++]", "[NH4+-]", "[NH4+1]");
        all(Checks.ARGUMENT, "[NH+4]", "[CC]", "[C-H3]", "[[CH4]]", "[CH4](", "[.CH4]", "[*]", "[X]", "[f-]", "[CH4]]");
    }

    private static void badBonds() {
        all(Checks.ARGUMENT, "C1CC", "C1", "C=1CC", "C1CC12", "C1CC1C1", "CC9");
        all(Checks.ARGUMENT, "C11", "C1CC11", "C=1=1", "C121CC2", "c11");
        all(Checks.ARGUMENT, "C1C1", "C12CC12", "C1C=1", "C1(C1)", "C12C1C2", "c1c1", "C12CC21", "CC1C1");
        all(Checks.ARGUMENT, "C=1CC-1", "C-1CC=1", "C#1CC=1", "C=1CC#1", "c-1ccc=1");
        all(Checks.ARGUMENT, "c=c", "c#c", "c=C", "C=c", "C#c", "c#N", "o=o", "C=o", "s=O", "c1ccc=1", "c=1ccc1", "c1ccccc1=O", "C=1CCc1");
        all(Checks.ARGUMENT, "c1cccc(=O)c1", "C=1cccc1");
    }

    private static void tooLarge() {
        all("1", "CCCCCCCCCC", "C(C)(C)CCCCCCC");
        all(Checks.UNSUPPORTED, "CCCCCCCCCCC", "C(C)(C)CCCCCCCC", "C1CCCCCCCCCC1", "cccccccccccc",
            "CCCCCCCCCCCCCCCCCCCCCCCCCCCCCCCCCCCCCCCC", "CCCCCCCCC(C)C");
        all(Checks.UNSUPPORTED, "C(C(C(C(C(C(C(C(C(C(C(C(C))))))))))))");
    }

    private static void valences() {
        all(Checks.ARITHMETIC, "C(C)(C)(C)(C)C", "C=C=C#C", "C#C#C", "N(C)(C)(C)C", "N#C=C", "O=C=N#C", "O(C)(C)C", "O=OC", "S(=O)=O");
        all(Checks.ARITHMETIC, "O#C", "F=C", "FCF(C)", "CFC", "F(C)C", "S#C", "N=N=N", "F#F");
        all(Checks.ARITHMETIC, "c1ccccc1(C)C", "c1cccn(C)c1", "o(C)(C)C", "o1(C)cccc1", "c1ccs(C)c1", "n(C)(C)(C)C");
        all("1", "C=C=C", "O=C=O", "N=N", "S=C", "OS", "C(F)(F)(F)F", "n1ccccc1");
        all("1", "[CH4]", "[CH3]C", "[CH2]=C", "[CH]#C", "[NH3]", "[OH2]", "[SH2]", "[FH]", "[C](F)(F)(F)F", "[C]=1=C=C=1");
        all("1", "[NH4+]", "[OH3+]", "[SH3+]", "[FH2+]", "[CH3+]", "C[N+](C)(C)C", "[O+](C)(C)C", "C[F+]C");
        all("1", "[NH2-]", "[OH-]", "[SH-]", "[F-]", "[CH3-]", "[O-]C", "[N-](C)C", "[C-]#N", "[C+](C)(C)C", "[C-](C)(C)C");
        all(Checks.ARITHMETIC, "[C]", "[CH]", "[CH2]", "[CH3]", "[CH4]C", "[CH4+]", "[CH4-]", "[CH2+]", "[CH2-]", "[C+]", "[C-]");
        all(Checks.ARITHMETIC, "[N]", "[NH2]", "[NH4]", "[NH3+]", "[NH3-]", "[NH-]", "[O]", "[OH]", "[OH3]", "[OH2+]", "[OH2-]", "[O-]");
        all(Checks.ARITHMETIC, "[F]", "[F+]", "[FH-]", "[FH2]", "[FH3+]", "[S]", "[SH2+]", "[S-]", "[CH3]=C", "C[N+](C)C", "C[O-]C");
        all(Checks.ARITHMETIC, "[CH2+](C)C", "[F-]C", "[FH4]", "[NH3]c1ccccc1");
        // An aromatic c or n counts 1 more only when it has a 4; an o or s never does.
        all("1", "c1ccc2c(c1)cccc2", "Cc1ccccc1", "n1cccnc1");
        all(Checks.ARITHMETIC, "n1(F)ccccc1");
    }

    private static void matchings() {
        all(Checks.ARITHMETIC, "c", "n", "Cc", "c-c", "ccc", "c1cccc1", "c1cc1", "n1cccc1", "c1ccc(c)cc1", "coc", "c1ccocc1");
        all("1", "cc", "nn", "cn", "cccc", "c1ccc1", "ccoss", "ccocc", "cc-cc", "o1ccocc1");
        // As many as can be joined is not enough when the ones left over are not neighbours.
        all(Checks.ARITHMETIC, "c(c)(c)c", "c(c)(c)cc", "cocccoc", "cc-c-cc", "c1-c-c-c-c-c-1");
        all("1", "c(c)c(c)", "c(cc)c", "ccc(cc)c", "c(cc)(cc)c", "c1cc-2c1cc2");
        all("1", "C", "o", "oss", "o1ooooo1");
    }

    private static void theOrderOfWrongs() {
        all(Checks.ARGUMENT, "CCCCCCCCCCCC(", "CCCCCCCCCCC1", "C1C1CCCCCCCCCC", "c=cCCCCCCCCCC", "C=1CCCCCCCCCCC-1", "CCCCCCCCCCCCX");
        all(Checks.ARGUMENT, "F=FC1", "c1cccc1=C", "CFC(", "[CH5]F=F", "C11C#C#C");
        all(Checks.UNSUPPORTED, "F=FCCCCCCCCC", "ccccccccccc", "[CH4]CCCCCCCCCC");
    }

    private static void whileDownAndFull() {
        Checks c = new Checks();
        String[] twelve = {"C", "N", "O", "S", "F", "CC", "CN", "CO", "CS", "CF", "NN", "NO"};
        for (int i = 0; i < 12; i++) {
            Checks.due("register " + twelve[i], c.register(twelve[i]), i + 1);
        }
        Checks.due("thirteenth", c.register("NS"), Checks.INDEX);
        Checks.due("it stays in the buffer", c.room(), 38);
        Checks.due("count", c.registry.count(), 12);
        Checks.due("the same when full", c.register("ON"), 12);
        Checks.due("lookup when full", c.lookup("NS"), 0);
        Checks.due("wrong form before the room", c.register("C("), Checks.ARGUMENT);
        Checks.due("too large before the room", c.register("CCCCCCCCCCC"), Checks.UNSUPPORTED);
        Checks.due("valence before the room", c.register("F=F"), Checks.ARITHMETIC);
        c.registry.fail(2);
        Checks.due("the room before a failure", c.register("NS"), Checks.INDEX);
        Checks.due("remove meets the failure", c.remove(1), -2);
        Checks.due("down comes before a wrong form", c.register("C("), Checks.STATE);
        Checks.due("down comes before a wrong form", c.lookup("C("), Checks.STATE);
        Checks.due("down comes before a wrong form", c.search("C("), Checks.STATE);
        Checks.due("down: too large", c.search("CCCCCCCCCCC"), Checks.STATE);
        Checks.due("down: fine", c.lookup("C"), Checks.STATE);
        Checks.due("down: remove", c.remove(1), Checks.STATE);
        Checks.due("down: remove of none", c.remove(99), Checks.STATE);
    }
}
