/** Promises 6 and 7: search and found. */
final class SearchTest {
    public static void main(String[] args) {
        patternTexts();
        wrongPatterns();
        atomsFit();
        bondsFit();
        listsAndStars();
        ringsAndParts();
        foundTellsTheIds();
        foundIsKeptOrLost();
        Checks.end();
    }

    private static void hits(Checks c, String pattern, String ids) {
        int many = ids.isEmpty() ? 0 : ids.split(" ").length;
        Checks.due("search of " + pattern, c.search(pattern), many);
        Checks.due("found of " + pattern, c.foundAll(), ids);
        Checks.due("found beyond " + pattern, c.registry.found(many), 0);
    }

    private static Checks with(String... texts) {
        Checks c = new Checks();
        for (int i = 0; i < texts.length; i++) {
            Checks.due("register of " + texts[i], c.register(texts[i]), i + 1);
        }
        return c;
    }

    private static void all(String want, String... patterns) {
        for (String pattern : patterns) {
            Checks.due("search of " + pattern, new Checks().search(pattern), want);
        }
    }

    private static void patternTexts() {
        // Neither hydrogens nor valences nor matchings are looked at.
        all("0", "C", "c", "ccc", "F=F", "C(C)(C)(C)(C)C", "F(F)(F)F", "[CH4]C", "[C]", "[FH4+]", "O#O", "c1cccc1", "n", "cCc");
        all("0", "*", "**", "*~*", "*=*", "*#*", "*-*", "C~C", "c~c", "c~C", "*1**1", "*~1**1", "*1**~1", "*~1**~1", "c~1cc~1", "C~1cc1");
        all("0", "[C,N]", "[C,N,O]", "[C,N,O,S]", "[F,S]", "[C,C]", "[C,C,C,C]", "[O,F]1CC1", "*(*)(~*)=*", "[C,N]=[C,N]");
        // * and lists may have any bond, to aromatic atoms too.
        all("0", "*=c", "c=*", "c#*", "[C,N]=c", "c=[C,N]", "n#[C,N]", "*=1cc1", "c=1c*1", "*-c", "c-*", "c*", "*c");
        all("0", "CCCCCCCCCC", "*~*~*~*~*~*~*~*~*~*");
    }

    private static void wrongPatterns() {
        all(Checks.ARGUMENT, "", "~", "~*", "*~", "*~~*", "*~-*", "*-~*", "(*)", "*()", "*(", "*)", "*1", "*11", "*1*1", "*1*~1", "*12*~12");
        all(Checks.ARGUMENT, "*~1**=1", "*=1**~1", "*-1**~1", "*=1**#1", "c=c", "c#c", "c=C", "C#c", "c=1cc1", "C.C", "*0**0");
        all(Checks.ARGUMENT, "[*]", "[C,]", "[,C]", "[C,N", "[C,N,]", "[C,,N]", "[C,N,O,S,F]", "[C,N,O,S,C]", "[c,n]", "[C,n]", "[]", "[,]");
        all(Checks.ARGUMENT, "[CH,N]", "[C,NH]", "[C+,N]", "[C,N+]", "[C,N-]", "[C,*]", "[C,H]", "[H,C]", "[CN]", "[C;N]", "[C~N]", "[CH5]", "[C+H]", "[CH1]");
        all(Checks.UNSUPPORTED, "CCCCCCCCCCC", "***********", "*~*~*~*~*~*~*~*~*~*~*", "[C,N]CCCCCCCCCC", "F=F=F=F=F=F=F=F=F=F=F");
        all(Checks.ARGUMENT, "***********(", "***********1", "c=cCCCCCCCCC");
    }

    private static void atomsFit() {
        Checks c = with("C", "N", "[NH4+]", "[NH2-]", "cc", "nn", "[CH3+]", "[CH3-]", "o", "O", "[OH-]", "F");
        hits(c, "C", "1");
        hits(c, "[C]", "1");
        hits(c, "[CH]", "1");
        hits(c, "[CH4]", "1");
        hits(c, "[C+]", "7");
        hits(c, "[CH2+]", "7");
        hits(c, "[C-]", "8");
        hits(c, "c", "5");
        hits(c, "n", "6");
        hits(c, "N", "2");
        hits(c, "[N+]", "3");
        hits(c, "[NH4-]", "4");
        hits(c, "o", "9");
        hits(c, "O", "10");
        hits(c, "[O-]", "11");
        hits(c, "F", "12");
        hits(c, "S", "");
        hits(c, "s", "");
        hits(c, "*", "1 2 3 4 5 6 7 8 9 10 11 12");
        hits(c, "[C,N]", "1 2 3 4 5 6 7 8");
        hits(c, "[O,F]", "9 10 11 12");
        hits(c, "[S,S]", "");
        hits(c, "[S,C,N,F]", "1 2 3 4 5 6 7 8 12");
        hits(c, "[S,C,N,O]", "1 2 3 4 5 6 7 8 9 10 11");
    }

    private static void bondsFit() {
        Checks c = with("CC", "C=C", "C#C", "cc", "cc-cc", "Ccc", "oo", "o-o", "CC=C");
        hits(c, "CC", "1 9");
        hits(c, "C-C", "1 9");
        hits(c, "C=C", "2 9");
        hits(c, "C#C", "3");
        hits(c, "C~C", "1 2 3 9");
        hits(c, "cc", "4 5 6");
        hits(c, "c-c", "5");
        hits(c, "c~c", "4 5 6");
        hits(c, "Cc", "6");
        hits(c, "C-c", "6");
        hits(c, "C~c", "6");
        hits(c, "oo", "7");
        hits(c, "o-o", "8");
        hits(c, "o~o", "7 8");
        hits(c, "**", "1 5 6 8 9");
        hits(c, "*=*", "2 9");
        hits(c, "*#*", "3");
        hits(c, "*~*", "1 2 3 4 5 6 7 8 9");
        hits(c, "*c", "5 6");
        hits(c, "*~c", "4 5 6");
        hits(c, "*=c", "");
        hits(c, "[C,O][C,N]", "1 5 6 9");
        hits(c, "[C,O]~[O,N]", "7 8");
    }

    private static void listsAndStars() {
        Checks c = with("CCO", "c1ccccc1", "Oc1ccccc1", "C1CCCCC1", "[NH4+]", "CC(=O)[O-]", "n1ccccc1");
        hits(c, "CO", "1");
        hits(c, "*~O", "1 3 6");
        hits(c, "[C,N]-*", "1 3 4 6");
        hits(c, "[N,O,F]", "1 3 5 6 7");
        hits(c, "[N,O,F]~*", "1 3 6 7");
        hits(c, "[C,N]~1~*~*~*~*~*~1", "2 3 4 7");
        hits(c, "*=O", "6");
        hits(c, "O~*~[O-]", "6");
    }

    private static void ringsAndParts() {
        Checks c = with("C1CC1", "CCC", "C1CCC1", "CC(C)C", "CC(C)(C)C", "C1CC1C", "CCCC", "C1CC=1");
        hits(c, "CCC", "1 2 3 4 5 6 7 8");
        hits(c, "C1CC1", "1 6");
        hits(c, "C1CC=1", "8");
        hits(c, "C~1CC1", "1 6 8");
        hits(c, "C(C)(C)C", "4 5 6");
        hits(c, "C(C)(C)(C)C", "5");
        hits(c, "C(C)(C)(C)(C)C", "");
        hits(c, "CCCC", "3 6 7");
        hits(c, "C1CCC1", "3");
        // Different atoms of the pattern go to different atoms; not bound in the pattern may be bound in the molecule.
        hits(c, "****", "3 6 7");
        hits(c, "*****", "");
        hits(c, "*(*)(*)(*)*", "5");
        hits(c, "**~*", "1 2 3 4 5 6 7 8");
        hits(c, "*=*-*", "8");
        hits(c, "*=*=*", "");
        // The first choice for an atom may have to be taken back.
        Checks d = with("FCCC(S)CN", "CCC(F)CC(F)N");
        hits(d, "CCC(S)CN", "1");
        hits(d, "C(F)N", "2");
        hits(d, "C(F)CC(F)N", "2");
        hits(d, "FCCCS", "1");
        hits(d, "[F,S]CCC", "1 2");
        hits(d, "*~*~*~*~*~*~*~*", "");
    }

    private static void foundTellsTheIds() {
        Checks c = with("C", "CC", "CCC", "N", "CN");
        c.remove(2);
        Checks.due("next", c.register("CC"), 6);
        hits(c, "CC", "3 6");
        hits(c, "C", "1 3 5 6");
        Checks.due("found -1", c.registry.found(-1), 0);
        Checks.due("found min", c.registry.found(Integer.MIN_VALUE), 0);
        Checks.due("found max", c.registry.found(Integer.MAX_VALUE), 0);
        Checks.due("found 3", c.registry.found(3), 6);
        Checks.due("found 4", c.registry.found(4), 0);
        hits(c, "S", "");
        Checks.due("search in none", new Checks().search("*"), 0);
    }

    private static void foundIsKeptOrLost() {
        Checks c = with("C", "N", "O");
        hits(c, "*", "1 2 3");
        c.register("C");
        Checks.due("register of the same keeps it", c.foundAll(), "1 2 3");
        c.lookup("S");
        c.remove(9);
        c.registry.fail(0);
        Checks.due("recover when up", c.registry.recover(), -1);
        Checks.due("calls that change nothing keep it", c.foundAll(), "1 2 3");
        c.search("(");
        c.register("F=F");
        Checks.due("calls that throw keep it", c.foundAll(), "1 2 3");
        c.register("S");
        Checks.due("a new molecule ends it", c.foundAll(), "");
        hits(c, "*", "1 2 3 4");
        c.remove(4);
        Checks.due("a remove ends it", c.foundAll(), "");
        for (int n = 1; n <= 4; n++) {
            c.search("[C,N]");
            Checks.due("searched", c.foundAll(), "1 2");
            c.registry.fail(n);
            Checks.due("told a failure keeps it", c.foundAll(), "1 2");
            Checks.due("fails", c.register(n < 4 ? "FF" : "F"), -2);
            Checks.due("while down", c.foundAll(), "");
            Checks.due("search while down", c.search("*"), Checks.STATE);
            c.registry.recover();
            Checks.due("after a recover", c.foundAll(), "");
            Checks.due("the next search", c.search("N"), 1);
            Checks.due("counts again", c.foundAll(), "2");
        }
    }
}
