/** The edges of THE REGISTRY with its four WRITES and of promises 4, 5, 8, 9 and 10, a sentence of the document each. */
final class RegistryEdgesTest {
    private static final int[] NO_IDS = {0, -1, -12, 13, 14, 256, 257, Integer.MIN_VALUE, Integer.MAX_VALUE};

    public static void main(String[] args) {
        atMostTwelve();
        idsInOrder();
        neverUsedAgain();
        registerAnswers();
        lookupAnswers();
        lookupChangesNothing();
        removeAnswers();
        removeWhileDown();
        writesOneToFour();
        failAllows();
        failWhileDown();
        ofTheNextChange();
        noneToldByZero();
        thatOneAndThoseBehind();
        onlyBufferAndRecover();
        ifItWasNotDoneYet();
        noMoreFailures();
        usedUpOnlyWhenItCame();
        recoverAnswers();
        recoverWhenUp();
        the512thCall();
        Checks.end();
    }

    private static void atMostTwelve() {
        Checks.sentence("THE REGISTRY has at most 12 molecules");
        Checks c = new Checks();
        for (int i = 0; i < 12; i++) {
            Checks.due("count", c.registry.count(), i);
            Checks.due("register of " + Checks.TWELVE[i], c.register(Checks.TWELVE[i]), i + 1);
        }
        Checks.due("a thirteenth", c.register("NS"), Checks.INDEX);
        Checks.due("count", c.registry.count(), 12);
        Checks.due("the thirteenth is not there", c.lookup("NS"), 0);
        Checks.due("atoms of 13", c.registry.atoms(13), 0);
        for (int i = 0; i < 12; i++) {
            Checks.due("all others are", c.lookup(Checks.TWELVE[i]), i + 1);
        }
        Checks.due("remove", c.remove(5), 1);
        Checks.due("room for one", c.register("NS"), 13);
        Checks.due("and no more", c.register("SS"), Checks.INDEX);
        Checks.due("count", c.registry.count(), 12);
    }

    private static void idsInOrder() {
        Checks.sentence("with IDs, 1, 2, .. in the order in which they were registered");
        Checks c = new Checks();
        for (int i = 0; i < 12; i++) {
            Checks.due("register", c.register(Checks.TWELVE[11 - i]), i + 1);
        }
        for (int i = 0; i < 12; i++) {
            Checks.due("lookup", c.lookup(Checks.TWELVE[11 - i]), i + 1);
        }
        Checks d = new Checks();
        Checks.due("what throws takes no ID", d.register("F=F") + d.register("(") + d.register("CCCCCCCCCCC"),
            Checks.ARITHMETIC + Checks.ARGUMENT + Checks.UNSUPPORTED);
        Checks.due("the first", d.register("O"), 1);
        Checks.due("the same takes no ID", d.register("O") + d.register("[OH2]"), "11");
        Checks.due("the second", d.register("S"), 2);
    }

    private static void neverUsedAgain() {
        Checks.sentence("(an ID is never used again)");
        Checks c = Checks.with("C", "N");
        Checks.due("remove the last", c.remove(2), 1);
        Checks.due("a new one", c.register("O"), 3);
        Checks.due("remove the first", c.remove(1), 1);
        Checks.due("the first again", c.register("C"), 4);
        Checks.due("remove all", c.remove(3) + c.remove(4), "11");
        Checks.due("a new one", c.register("C"), 5);
        Checks.due("atoms of old ones", c.registry.atoms(1) + c.registry.atoms(2) + c.registry.atoms(3) + c.registry.atoms(4), 0);
        Checks full = Checks.with(Checks.TWELVE);
        Checks.due("a thirteenth", full.register("NS"), Checks.INDEX);
        Checks.due("remove the last", full.remove(12), 1);
        Checks.due("no ID was used by what was thrown", full.register("NO"), 13);
    }

    private static void registerAnswers() {
        Checks.sentence("Registers the molecule in the buffer: its ID, or that of the one that is the same.");
        Checks c = Checks.with("C", "CO", "N");
        Checks.due("a new one", c.register("S"), 4);
        Checks.due("the first", c.register("[CH4]"), 1);
        Checks.due("one between", c.register("OC"), 2);
        Checks.due("the last", c.register("[SH2]"), 4);
        Checks.due("count", c.registry.count(), 4);
        Checks.due("as it was written then", c.registry.atom(2, 0) & 127, (int) 'C');
        Checks.due("remove", c.remove(2), 1);
        Checks.due("gone, so it is new", c.register("OC"), 5);
        Checks.due("as it is written now", c.registry.atom(5, 0) & 127, (int) 'O');
        Checks full = Checks.with(Checks.TWELVE);
        Checks.due("the first when there is no room", full.register("[CH4]"), 1);
        Checks.due("the last when there is no room", full.register("ON"), 12);
    }

    private static void lookupAnswers() {
        Checks.sentence("The ID of the molecule in the buffer, 0 when it is not there.");
        Checks c = new Checks();
        Checks.due("in none", c.lookup("C"), 0);
        c.register("C");
        Checks.due("the only one", c.lookup("[CH4]"), 1);
        Checks.due("another", c.lookup("CC"), 0);
        Checks.due("remove", c.remove(1), 1);
        Checks.due("gone", c.lookup("C"), 0);
        Checks full = Checks.with(Checks.TWELVE);
        Checks.due("the first", full.lookup("C"), 1);
        Checks.due("the last", full.lookup("ON"), 12);
        Checks.due("none", full.lookup("NS"), 0);
    }

    private static void lookupChangesNothing() {
        Checks.sentence("Throws as register, but for the room.");
        Checks full = Checks.with(Checks.TWELVE);
        String before = full.shown(13);
        Checks.due("full", full.lookup("NS"), 0);
        Checks.due("no molecule", full.lookup("NS("), Checks.ARGUMENT);
        Checks.due("too large", full.lookup("NSCCCCCCCCC"), Checks.UNSUPPORTED);
        Checks.due("wrong valence", full.lookup("NF=F"), Checks.ARITHMETIC);
        Checks.due("no matching", full.lookup("Nc"), Checks.ARITHMETIC);
        Checks.due("what is there", full.shown(13), before);
        Checks c = Checks.with("C");
        c.registry.fail(1);
        Checks.due("a lookup is no change", c.lookup("N"), 0);
        Checks.due("the failure waits", c.register("N"), -2);
        Checks.due("DOWN", c.lookup("C"), Checks.STATE);
    }

    private static void removeAnswers() {
        Checks.sentence("The molecule with this ID goes: 1; 0 when there is none.");
        Checks none = new Checks();
        Checks c = Checks.with(Checks.TWELVE);
        for (int id : NO_IDS) {
            Checks.due("remove " + id + " of none", none.remove(id), 0);
            Checks.due("remove " + id + " of twelve", c.remove(id), 0);
        }
        Checks.due("remove 1 of none", none.remove(1), 0);
        Checks.due("count", c.registry.count(), 12);
        int left = 12;
        for (int id : new int[] {1, 12, 6, 7, 2, 3, 11, 10, 4, 5, 8, 9}) {
            Checks.due("remove " + id, c.remove(id), 1);
            left--;
            Checks.due("remove " + id + " again", c.remove(id), 0);
            Checks.due("count", c.registry.count(), left);
            Checks.due("it is gone", c.lookup(Checks.TWELVE[id - 1]), 0);
            Checks.due("only it", c.search("*"), left);
        }
        Checks.due("remove of an ID that is to come", c.remove(13), 0);
        Checks.due("which comes", c.register("C"), 13);
    }

    private static void removeWhileDown() {
        Checks.sentence("IllegalStateException when the registry is DOWN.");
        for (int n = 1; n <= 4; n++) {
            Checks c = Checks.downAt(n, "C", "N");
            for (int id : new int[] {-1, 0, 1, 2, 3, 4}) {
                Checks.due("remove " + id, c.remove(id), Checks.STATE);
            }
            c.registry.recover();
            Checks.due("count", c.registry.count(), n >= 3 ? 3 : 2);
        }
    }

    private static void writesOneToFour() {
        Checks.sentence("1 the LOG gets what is to be done, 2 the log is MARKED, 3 the registry is changed, 4 the log is emptied");
        for (int n = 0; n <= 4; n++) {
            boolean done = n == 0 || n >= 3;
            Checks c = Checks.with("C", "N", "O");
            Checks.due("fail " + n, c.registry.fail(n), true);
            Checks.due("register", c.register("C=S"), n == 0 ? 4 : -2);
            Checks.due("recover", c.registry.recover(), n == 0 ? -1 : done ? 1 : 0);
            Checks.due("the new one", c.lookup("S=C"), done ? 4 : 0);
            Checks.due("its atoms", c.registry.atoms(4), done ? 2 : 0);
            Checks.due("its bond", c.registry.bond(4, 0, 1), done ? 2 : 0);
            Checks.due("the others", c.lookup("C") + c.lookup("N") + c.lookup("O"), "123");
            Checks d = Checks.with("C", "N", "O");
            Checks.due("fail " + n, d.registry.fail(n), true);
            Checks.due("remove", d.remove(2), n == 0 ? 1 : -2);
            Checks.due("recover", d.registry.recover(), n == 0 ? -1 : done ? 1 : 0);
            Checks.due("the one removed", d.lookup("N"), done ? 0 : 2);
            Checks.due("the others", d.lookup("C") + d.lookup("O"), "13");
            Checks.due("count", d.registry.count(), done ? 2 : 3);
        }
    }

    private static void failAllows() {
        Checks.sentence("Tells a failure at WRITE n, 1 .. 4, of the next change, or none (0). False when .. n is another.");
        for (int n : new int[] {-1, -2, -4, 5, 6, 256, 257, 260, Integer.MIN_VALUE, Integer.MAX_VALUE}) {
            Checks c = new Checks();
            Checks.due("fail " + n, c.registry.fail(n), false);
            Checks.due("nothing was told", c.register("C"), 1);
            Checks.due("fail 3", c.registry.fail(3), true);
            Checks.due("fail " + n, c.registry.fail(n), false);
            Checks.due("what was told stays", c.remove(1), -2);
            Checks.due("at write 3", c.registry.recover(), 1);
            Checks.due("fail 2", c.registry.fail(2), true);
            Checks.due("fail " + n, c.registry.fail(n), false);
            Checks.due("what was told stays", c.register("C"), -2);
            Checks.due("at write 2", c.registry.recover(), 0);
        }
        for (int n = 0; n <= 4; n++) {
            Checks c = new Checks();
            Checks.due("fail " + n, c.registry.fail(n), true);
            Checks.due("register", c.register("C"), n == 0 ? 1 : -2);
        }
    }

    private static void failWhileDown() {
        Checks.sentence("False when it is DOWN");
        for (int at = 1; at <= 4; at++) {
            for (int n = -1; n <= 5; n++) {
                Checks c = Checks.downAt(at, "C");
                Checks.due("fail " + n + " while DOWN", c.registry.fail(n), false);
                Checks.due("recover", c.registry.recover(), at >= 3 ? 1 : 0);
                Checks.due("nothing was told", c.register("N"), at >= 3 ? 3 : 2);
                Checks.due("fail 1", c.registry.fail(1), true);
                Checks.due("it can be told again", c.remove(1), -2);
            }
        }
    }

    private static void ofTheNextChange() {
        Checks.sentence("of the next change");
        for (int n = 1; n <= 4; n++) {
            Checks c = Checks.with("C", "N");
            c.registry.fail(n);
            Checks.due("register of the same", c.register("C"), 1);
            Checks.due("remove of none", c.remove(3), 0);
            Checks.due("register that throws", c.register("F=F"), Checks.ARITHMETIC);
            Checks.due("lookup", c.lookup("O"), 0);
            Checks.due("search", c.search("*"), 2);
            Checks.due("recover", c.registry.recover(), -1);
            Checks.due("count", c.registry.count(), 2);
            Checks.due("the next change", c.remove(1), -2);
            Checks.due("recover", c.registry.recover(), n >= 3 ? 1 : 0);
            Checks.due("the change behind it", c.remove(2), 1);
            Checks.due("and the next", c.register("S"), 3);
        }
        Checks full = Checks.with(Checks.TWELVE);
        full.registry.fail(1);
        Checks.due("no room is no change", full.register("NS"), Checks.INDEX);
        Checks.due("the next change", full.remove(12), -2);
    }

    private static void noneToldByZero() {
        Checks.sentence("or none (0)");
        for (int n = 1; n <= 4; n++) {
            Checks c = new Checks();
            c.registry.fail(n);
            Checks.due("fail 0", c.registry.fail(0), true);
            Checks.due("no failure", c.register("C"), 1);
            Checks.due("fail 0 when none is told", c.registry.fail(0), true);
            Checks.due("no failure", c.remove(1), 1);
            // The failure that was told last is the one that comes.
            c.registry.fail(n);
            c.registry.fail(5 - n);
            Checks.due("a failure", c.register("C"), -2);
            Checks.due("recover", c.registry.recover(), 5 - n >= 3 ? 1 : 0);
        }
    }

    private static void thatOneAndThoseBehind() {
        Checks.sentence("that one and those behind it are not done, the registry is DOWN, and the call answers -2");
        for (int n = 1; n <= 4; n++) {
            Checks c = Checks.with("C");
            c.registry.fail(n);
            Checks.due("register", c.register("N"), -2);
            Checks.due("it is DOWN", c.registry.count(), -1);
            Checks.due("recover", c.registry.recover(), n >= 3 ? 1 : 0);
            Checks.due("it is up", c.registry.count(), n >= 3 ? 2 : 1);
            c.registry.fail(n);
            Checks.due("remove", c.remove(1), -2);
            Checks.due("it is DOWN", c.registry.count(), -1);
            Checks.due("recover", c.registry.recover(), n >= 3 ? 1 : 0);
            Checks.due("it is up", c.registry.count(), 1);
        }
    }

    private static void onlyBufferAndRecover() {
        Checks.sentence("While it is DOWN only the buffer and recover can be used.");
        for (int n = 1; n <= 4; n++) {
            Checks c = Checks.downAt(n, "CC", "CN");
            Checks.due("register", c.register("CO"), Checks.STATE);
            Checks.due("register of what is there", c.register("CC"), Checks.STATE);
            Checks.due("lookup", c.lookup("CC"), Checks.STATE);
            Checks.due("search", c.search("CC"), Checks.STATE);
            Checks.due("remove", c.remove(1), Checks.STATE);
            Checks.due("fail", c.registry.fail(0) || c.registry.fail(1), false);
            Checks.due("found", c.registry.found(0), 0);
            Checks.due("count", c.registry.count(), -1);
            for (int id = 0; id <= 4; id++) {
                Checks.due("atoms " + id, c.registry.atoms(id), 0);
                Checks.due("atom " + id, c.registry.atom(id, 0), 0);
                Checks.due("bond " + id, c.registry.bond(id, 0, 1), 0);
            }
            Checks.due("it is still DOWN", c.registry.count(), -1);
            Checks.due("recover", c.registry.recover(), n >= 3 ? 1 : 0);
            Checks.due("what was there", c.lookup("CC") + c.lookup("CN"), "12");
            Checks.due("what was to come", c.lookup("FF"), n >= 3 ? 3 : 0);
            Checks.due("what did not come", c.lookup("CO"), 0);
        }
    }

    private static void ifItWasNotDoneYet() {
        Checks.sentence("When it comes up, what a marked log says is done if it was not done yet, and the log is emptied");
        String[] eleven = java.util.Arrays.copyOf(Checks.TWELVE, 11);
        for (int n = 3; n <= 4; n++) {
            Checks c = Checks.with(eleven);
            c.registry.fail(n);
            Checks.due("the twelfth", c.register("NO"), -2);
            Checks.due("recover", c.registry.recover(), 1);
            Checks.due("it is there once", c.registry.count(), 12);
            Checks.due("with its ID", c.lookup("ON"), 12);
            c.finds("NO", "12");
            c.registry.fail(n);
            Checks.due("remove", c.remove(12), -2);
            Checks.due("recover", c.registry.recover(), 1);
            Checks.due("it alone is gone", c.registry.count(), 11);
            Checks.due("it is gone", c.lookup("ON"), 0);
            // The log is empty: a failure before the next mark does not bring the old one back.
            for (int early = 1; early <= 2; early++) {
                c.registry.fail(early);
                Checks.due("remove", c.remove(1), -2);
                Checks.due("recover", c.registry.recover(), 0);
                Checks.due("nothing went", c.registry.count(), 11);
            }
            Checks.due("the next is new", c.register("NO"), 13);
            notTwice(n);
        }
    }

    /** With room for more, so that a second one of it would be seen. */
    private static void notTwice(int n) {
        Checks c = Checks.with("C", "N");
        c.registry.fail(n);
        Checks.due("register", c.register("O"), -2);
        Checks.due("recover", c.registry.recover(), 1);
        Checks.due("count", c.registry.count(), 3);
        c.finds("*", "1 2 3");
        Checks.due("remove", c.remove(3), 1);
        Checks.due("there is no other", c.lookup("O"), 0);
        c.registry.fail(n);
        Checks.due("remove", c.remove(1), -2);
        Checks.due("recover", c.registry.recover(), 1);
        Checks.due("the other is left", c.lookup("N") + c.registry.count(), "21");
    }

    private static void noMoreFailures() {
        Checks.sentence("(no more failures are told)");
        for (int n = 1; n <= 4; n++) {
            Checks c = Checks.downAt(n, "C");
            Checks.due("recover", c.registry.recover(), n >= 3 ? 1 : 0);
            Checks.due("recover is not needed", c.registry.recover(), -1);
            Checks.due("register", c.register("N"), n >= 3 ? 3 : 2);
            Checks.due("remove", c.remove(1), 1);
            Checks.due("register", c.register("O"), n >= 3 ? 4 : 3);
        }
    }

    private static void usedUpOnlyWhenItCame() {
        Checks.sentence("A new ID that was in the log is used up only when it came into the registry.");
        for (int n = 1; n <= 4; n++) {
            int came = n >= 3 ? 1 : 0;
            Checks c = Checks.downAt(n, "C");
            Checks.due("recover", c.registry.recover(), came);
            Checks.due("the ID that was in the log", c.lookup("FF"), came * 2);
            Checks.due("the next", c.register("N"), 2 + came);
            // Used up it stays, though the molecule goes.
            Checks.due("remove", c.remove(2 + came), 1);
            c.registry.fail(n);
            Checks.due("register", c.register("O"), -2);
            Checks.due("recover", c.registry.recover(), came);
            Checks.due("the ID that was in the log", c.lookup("O"), came * 4);
            Checks.due("the next", c.register("S"), 3 + 2 * came);
        }
        Checks c = new Checks();
        for (int i = 0; i < 10; i++) {
            c.registry.fail(2);
            Checks.due("register", c.register("C"), -2);
            Checks.due("recover", c.registry.recover(), 0);
        }
        Checks.due("none was used up", c.register("C"), 1);
    }

    private static void recoverAnswers() {
        Checks.sentence("The registry, being DOWN, comes up: 1 when the change that failed is done then, 0 when not.");
        for (int n = 1; n <= 4; n++) {
            Checks c = Checks.downAt(n);
            c.typed("NO");
            Checks.due("recover", c.registry.recover(), n >= 3 ? 1 : 0);
            Checks.due("it is up", c.registry.count(), n >= 3 ? 1 : 0);
            Checks.due("the buffer is as it was", Checks.said(c.registry::register), n >= 3 ? 2 : 1);
            Checks.due("it can fail again", c.registry.fail(n), true);
            Checks.due("remove", c.remove(1), -2);
            Checks.due("recover", c.registry.recover(), n >= 3 ? 1 : 0);
            Checks.due("what is done is done", c.registry.count(), 1);
        }
    }

    private static void recoverWhenUp() {
        Checks.sentence("-1 when it isn't DOWN.");
        Checks c = new Checks();
        Checks.due("recover of a new one", c.registry.recover(), -1);
        c.register("C");
        Checks.due("recover", c.registry.recover(), -1);
        c.registry.fail(2);
        Checks.due("recover with a failure told", c.registry.recover(), -1);
        Checks.due("it is told still", c.register("N"), -2);
        Checks.due("recover", c.registry.recover(), 0);
        Checks.due("recover again", c.registry.recover(), -1);
        Checks.due("count", c.registry.count(), 1);
    }

    private static void the512thCall() {
        Checks.sentence("An object is used for at most 512 calls after it has been made");
        MoleculeRegistry registry = new MoleculeRegistry();
        for (int id = 1; id <= 170; id++) {
            registry.type(0x434FL);
            Checks.due("register", registry.register(), id);
            Checks.due("remove", registry.remove(id), 1);
        }
        registry.type(0x434FL);
        Checks.due("the 512th call", registry.register(), 171);
        MoleculeRegistry other = new MoleculeRegistry();
        other.type(0x434FL);
        other.register();
        for (int call = 3; call <= 511; call++) {
            Checks.due("call " + call, other.atoms(1), 2);
        }
        Checks.due("the 512th call", other.bond(1, 0, 1), 1);
    }
}
