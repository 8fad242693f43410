/** The edges of promises 6 and 7, search and found, a sentence of the document each. */
final class FoundEdgesTest {
    private static final int[] FAR = {-1, -2, -12, -13, 12, 13, 14, 255, 256, 65536, Integer.MIN_VALUE, Integer.MAX_VALUE};

    public static void main(String[] args) {
        inHowMany();
        theKthFromZero();
        byId();
        theLatestSearch();
        noneThere();
        whileDown();
        afterARegister();
        afterARemove();
        keptOtherwise();
        afterARecover();
        recoverWhenUp();
        searchWhileDown();
        Checks.end();
    }

    private static void inHowMany() {
        Checks.sentence("Takes the pattern in the buffer: in how many molecules it is.");
        Checks none = new Checks();
        none.finds("*", "");
        Checks c = new Checks();
        StringBuilder ids = new StringBuilder();
        for (int i = 0; i < 12; i++) {
            Checks.due("register", c.register(Checks.TWELVE[i]), i + 1);
            ids.append(i == 0 ? "" : " ").append(i + 1);
            c.finds("*", ids.toString());
        }
        c.finds("C~N", "7");
        // A molecule counts once, however often the pattern is in it.
        Checks.with("CCCCCCCCCC").finds("C", "1");
        Checks.with("CCCCCCCCCC", "C").finds("*", "1 2");
    }

    private static void theKthFromZero() {
        Checks.sentence("The ID of the k-th, from 0");
        for (int many = 0; many <= 12; many++) {
            Checks c = new Checks();
            for (int i = 0; i < many; i++) {
                c.register(Checks.TWELVE[i]);
            }
            Checks.due("search", c.search("*"), many);
            for (int k = 0; k <= 13; k++) {
                Checks.due("found " + k + " of " + many, c.registry.found(k), k < many ? k + 1 : 0);
            }
        }
    }

    private static void byId() {
        Checks.sentence("of the molecules (by ID) in which the latest search found its pattern");
        Checks c = Checks.with(Checks.TWELVE);
        Checks.due("remove 1", c.remove(1), 1);
        Checks.due("remove 7", c.remove(7), 1);
        Checks.due("remove 12", c.remove(12), 1);
        Checks.due("register of CN", c.register("CN"), 13);
        Checks.due("register of C", c.register("C"), 14);
        Checks.due("register of NO", c.register("NO"), 15);
        c.finds("*", "2 3 4 5 6 8 9 10 11 13 14 15");
        c.finds("C", "6 8 9 10 13 14");
        c.finds("N", "2 11 13 15");
        c.finds("O", "3 8 15");
    }

    private static void theLatestSearch() {
        Checks.sentence("the latest search");
        Checks c = Checks.with("C", "N", "CN");
        c.finds("*", "1 2 3");
        c.finds("N", "2 3");
        c.finds("C", "1 3");
        c.finds("S", "");
        c.finds("CN", "3");
        // One that throws is no search.
        Checks.due("a wrong pattern", c.search("C("), Checks.ARGUMENT);
        Checks.due("found", c.foundAll(), "3");
        Checks.due("too large a pattern", c.search("***********"), Checks.UNSUPPORTED);
        Checks.due("found", c.foundAll(), "3");
    }

    private static void noneThere() {
        Checks.sentence("0 when there is none");
        Checks none = new Checks();
        Checks c = Checks.with(Checks.TWELVE);
        Checks.due("found 0 before a search", none.registry.found(0), 0);
        Checks.due("found 0 before a search", c.registry.found(0), 0);
        c.search("*");
        for (int k : FAR) {
            Checks.due("found " + k + " of none", none.registry.found(k), 0);
            Checks.due("found " + k + " of twelve", c.registry.found(k), 0);
        }
        Checks.due("found 11 of twelve", c.registry.found(11), 12);
        c.search("S");
        Checks.due("two of them", c.foundAll(), "4 9");
        Checks.due("found 2 of two", c.registry.found(2), 0);
        Checks.due("found 11 of two", c.registry.found(11), 0);
    }

    private static void whileDown() {
        Checks.sentence("while the registry is DOWN");
        for (int n = 1; n <= 4; n++) {
            Checks byRegister = Checks.with("C", "N");
            byRegister.search("*");
            byRegister.registry.fail(n);
            Checks.due("register", byRegister.register("O"), -2);
            Checks byRemove = Checks.with("C", "N");
            byRemove.search("*");
            byRemove.registry.fail(n);
            Checks.due("remove", byRemove.remove(2), -2);
            for (int k = -1; k <= 12; k++) {
                Checks.due("found " + k, byRegister.registry.found(k), 0);
                Checks.due("found " + k, byRemove.registry.found(k), 0);
            }
        }
    }

    private static void afterARegister() {
        Checks.sentence("after each register .. that changed something");
        Checks c = Checks.with("C", "N");
        c.finds("*", "1 2");
        Checks.due("register of what is there", c.register("N"), 2);
        Checks.due("it is kept", c.foundAll(), "1 2");
        Checks.due("register of a new one", c.register("O"), 3);
        for (int k = 0; k <= 12; k++) {
            Checks.due("found " + k, c.registry.found(k), 0);
        }
        Checks.due("register of what is there", c.register("O"), 3);
        Checks.due("it stays away", c.foundAll(), "");
        c.finds("*", "1 2 3");
        // A search that found nothing, and then a change.
        c.finds("F", "");
        Checks.due("register", c.register("S"), 4);
        Checks.due("nothing", c.foundAll(), "");
    }

    private static void afterARemove() {
        Checks.sentence("after each .. remove that changed something");
        Checks c = Checks.with("C", "N", "O");
        c.finds("*", "1 2 3");
        for (int id : new int[] {0, -1, 4, Integer.MAX_VALUE}) {
            Checks.due("remove " + id, c.remove(id), 0);
        }
        Checks.due("it is kept", c.foundAll(), "1 2 3");
        Checks.due("remove 2", c.remove(2), 1);
        for (int k = 0; k <= 12; k++) {
            Checks.due("found " + k, c.registry.found(k), 0);
        }
        c.finds("*", "1 3");
        // One that was not found is a change too.
        c.finds("C", "1");
        Checks.due("remove 3", c.remove(3), 1);
        Checks.due("nothing", c.foundAll(), "");
    }

    private static void keptOtherwise() {
        Checks.sentence("0 .. after each register and remove that changed something (and after no other call)");
        Checks c = Checks.with(Checks.TWELVE);
        c.finds("S", "4 9");
        c.registry.type('C');
        c.registry.type(32);
        c.registry.wipe();
        c.registry.count();
        c.registry.atoms(1);
        c.registry.atom(1, 0);
        c.registry.bond(1, 0, 0);
        c.registry.found(99);
        c.registry.fail(5);
        c.registry.fail(2);
        c.registry.fail(0);
        Checks.due("it is kept", c.foundAll(), "4 9");
        Checks.due("lookup", c.lookup("C"), 1);
        Checks.due("lookup", c.lookup("NS"), 0);
        Checks.due("lookup", c.lookup("("), Checks.ARGUMENT);
        Checks.due("it is kept", c.foundAll(), "4 9");
        Checks.due("register", c.register("("), Checks.ARGUMENT);
        Checks.due("register", c.register("CCCCCCCCCCC"), Checks.UNSUPPORTED);
        Checks.due("register", c.register("F=F"), Checks.ARITHMETIC);
        Checks.due("register", c.register("NS"), Checks.INDEX);
        Checks.due("register", c.register("C"), 1);
        Checks.due("it is kept", c.foundAll(), "4 9");
    }

    private static void afterARecover() {
        Checks.sentence("and after a recover (until the next search)");
        for (int n = 1; n <= 4; n++) {
            Checks c = Checks.with("C", "N");
            c.finds("*", "1 2");
            c.registry.fail(n);
            Checks.due("register", c.register("O"), -2);
            Checks.due("recover", c.registry.recover(), n >= 3 ? 1 : 0);
            for (int k = 0; k <= 12; k++) {
                Checks.due("found " + k, c.registry.found(k), 0);
            }
            Checks.due("register of what is there", c.register("C"), 1);
            Checks.due("nothing", c.foundAll(), "");
            c.finds("*", n >= 3 ? "1 2 3" : "1 2");
        }
    }

    private static void recoverWhenUp() {
        Checks.sentence("A call that .. is refused changes nothing. (a recover that answers -1)");
        Checks c = Checks.with("C", "N");
        c.finds("*", "1 2");
        Checks.due("recover", c.registry.recover(), -1);
        Checks.due("it is kept", c.foundAll(), "1 2");
    }

    private static void searchWhileDown() {
        Checks.sentence("IllegalStateException when the registry is DOWN");
        for (int n = 1; n <= 4; n++) {
            Checks c = Checks.downAt(n, "C", "N");
            Checks.due("search", c.search("*"), Checks.STATE);
            Checks.due("found", c.foundAll(), "");
            c.registry.recover();
            Checks.due("found", c.foundAll(), "");
            Checks.due("the pattern is still in the buffer", Checks.said(c.registry::search), n >= 3 ? 3 : 2);
        }
    }
}
