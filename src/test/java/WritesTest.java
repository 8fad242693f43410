/** Promises 8, 9 and 10: remove, fail and recover. */
final class WritesTest {
    public static void main(String[] args) {
        removes();
        failuresOfRegister();
        failuresOfRemove();
        toldFailures();
        idsAfterFailures();
        theLogKeepsWhatWasRead();
        fullRegistry();
        Checks.end();
    }

    private static void removes() {
        Checks c = new Checks();
        Checks.due("none", c.remove(1), 0);
        c.register("C");
        c.register("N");
        c.register("O");
        for (int id : new int[] {0, -1, 4, Integer.MAX_VALUE, Integer.MIN_VALUE}) {
            Checks.due("remove " + id, c.remove(id), 0);
        }
        Checks.due("remove 2", c.remove(2), 1);
        Checks.due("again", c.remove(2), 0);
        Checks.due("atoms of it", c.registry.atoms(2), 0);
        Checks.due("the ones around it", c.lookup("C") + c.lookup("N") + c.lookup("O"), "103");
        Checks.due("atom", c.registry.atom(3, 0) & 127, (int) 'O');
        Checks.due("registered again", c.register("N"), 4);
        Checks.due("all of them", c.remove(1) + c.remove(3) + c.remove(4), "111");
        Checks.due("count", c.registry.count(), 0);
        Checks.due("IDs are not used again", c.register("C"), 5);
        Checks.due("remove the last", c.remove(5), 1);
        Checks.due("nor the last one's", c.register("C"), 6);
    }

    private static void failuresOfRegister() {
        for (int n = 1; n <= 4; n++) {
            Checks c = new Checks();
            c.register("F");
            Checks.due("fail", c.registry.fail(n), true);
            Checks.due("register at write " + n, c.register("CO"), -2);
            down(c);
            int done = n >= 3 ? 1 : 0;
            Checks.due("recover after write " + n, c.registry.recover(), done);
            Checks.due("recover again", c.registry.recover(), -1);
            Checks.due("count", c.registry.count(), 1 + done);
            Checks.due("atoms", c.registry.atoms(2), 2 * done);
            Checks.due("atom", c.registry.atom(2, 1), done * (79 + 256 + 4096));
            Checks.due("bond", c.registry.bond(2, 1, 0), done);
            Checks.due("the same now", c.lookup("OC"), 2 * done);
            Checks.due("no failure is told any more", c.register("N"), 2 + done);
            Checks.due("it is not done twice", c.registry.count(), 2 + done);
        }
    }

    private static void failuresOfRemove() {
        for (int n = 1; n <= 4; n++) {
            Checks c = new Checks();
            c.register("F");
            c.register("CO");
            c.register("S");
            Checks.due("fail", c.registry.fail(n), true);
            Checks.due("remove at write " + n, c.remove(2), -2);
            down(c);
            int done = n >= 3 ? 1 : 0;
            Checks.due("recover after write " + n, c.registry.recover(), done);
            Checks.due("count", c.registry.count(), 3 - done);
            Checks.due("atoms", c.registry.atoms(2), 2 - 2 * done);
            Checks.due("the others", c.lookup("F") + c.lookup("S"), "13");
            Checks.due("remove again", c.remove(2), 1 - done);
            Checks.due("next ID", c.register("CO"), 4);
        }
    }

    private static void down(Checks c) {
        Checks.due("count", c.registry.count(), -1);
        Checks.due("found", c.registry.found(0), 0);
        Checks.due("atoms", c.registry.atoms(1), 0);
        Checks.due("atom", c.registry.atom(1, 0), 0);
        Checks.due("bond", c.registry.bond(1, 0, 1) + c.registry.bond(2, 0, 1), 0);
        for (int n = -1; n <= 5; n++) {
            Checks.due("fail " + n, c.registry.fail(n), false);
        }
        Checks.due("remove", c.remove(1), Checks.STATE);
        Checks.due("register", c.register("CC"), Checks.STATE);
        Checks.due("lookup", c.lookup("CC"), Checks.STATE);
        Checks.due("search", c.search("CC"), Checks.STATE);
        c.registry.wipe();
    }

    private static void toldFailures() {
        Checks c = new Checks();
        for (int n : new int[] {-1, 5, 6, Integer.MIN_VALUE, Integer.MAX_VALUE}) {
            Checks.due("fail " + n, c.registry.fail(n), false);
        }
        Checks.due("none was told", c.register("C"), 1);
        c.registry.fail(1);
        Checks.due("none again", c.registry.fail(0), true);
        Checks.due("none fails", c.register("N"), 2);
        c.registry.fail(3);
        c.registry.fail(9);
        Checks.due("a refused one leaves the told one", c.register("O"), -2);
        Checks.due("it was 3", c.registry.recover(), 1);
        c.registry.fail(3);
        c.registry.fail(2);
        Checks.due("the same is no change", c.register("C"), 1);
        Checks.due("nor is a remove of none", c.remove(77), 0);
        Checks.due("nor is what throws", c.register("F=F"), Checks.ARITHMETIC);
        Checks.due("nor a search", c.search("*"), 3);
        Checks.due("the latest counts, for the next change", c.remove(1), -2);
        Checks.due("it was 2", c.registry.recover(), 0);
        Checks.due("once only", c.remove(1), 1);
    }

    private static void idsAfterFailures() {
        Checks c = new Checks();
        int next = 1;
        for (int round = 0; round < 12; round++) {
            int n = round % 4 + 1;
            c.registry.fail(n);
            Checks.due("register", c.register("CN"), -2);
            c.registry.recover();
            next += n >= 3 ? 1 : 0;
            if (n >= 3) {
                Checks.due("its ID", c.lookup("CN"), next - 1);
                Checks.due("goes", c.remove(next - 1), 1);
            } else {
                Checks.due("not there", c.lookup("CN"), 0);
            }
        }
        Checks.due("IDs used up", c.register("CN"), next);
    }

    private static void theLogKeepsWhatWasRead() {
        Checks c = new Checks();
        c.registry.fail(3);
        Checks.due("fails", c.register("C=O"), -2);
        c.typed("NNN");
        Checks.due("down", Checks.said(c.registry::lookup), Checks.STATE);
        Checks.due("recover", c.registry.recover(), 1);
        Checks.due("the buffer is kept", Checks.said(c.registry::lookup), 0);
        Checks.due("the molecule", c.registry.bond(1, 0, 1), 2);
        Checks.due("the molecule", c.lookup("O=C"), 1);
    }

    private static void fullRegistry() {
        Checks c = new Checks();
        String[] eleven = {"C", "N", "O", "S", "F", "CC", "CN", "CO", "CS", "CF", "NN"};
        for (String text : eleven) {
            c.register(text);
        }
        c.registry.fail(4);
        Checks.due("twelfth", c.register("NO"), -2);
        Checks.due("recover", c.registry.recover(), 1);
        Checks.due("count", c.registry.count(), 12);
        Checks.due("full", c.register("NS"), Checks.INDEX);
        c.registry.fail(3);
        Checks.due("remove", c.remove(1), -2);
        Checks.due("recover", c.registry.recover(), 1);
        Checks.due("room again", c.register("NS"), 13);
        Checks.due("full again", c.register("C"), Checks.INDEX);
        Checks.due("all are found", c.search("*"), 12);
        Checks.due("in order", c.foundAll(), "2 3 4 5 6 7 8 9 10 11 12 13");
    }
}
