/** Promises 1, 2 and 3: a new object, type and wipe. */
final class BufferTest {
    public static void main(String[] args) {
        aNewObject();
        typeAppends();
        typeRefuses();
        wipeEmpties();
        whenCallsEmptyTheBuffer();
        Checks.end();
    }

    private static void aNewObject() {
        Checks c = new Checks();
        Checks.due("new count", c.registry.count(), 0);
        Checks.due("new found", c.registry.found(0), 0);
        Checks.due("new atoms", c.registry.atoms(1), 0);
        Checks.due("new recover", c.registry.recover(), -1);
        Checks.due("new register of nothing", Checks.said(c.registry::register), Checks.ARGUMENT);
        Checks.due("new search of nothing", Checks.said(c.registry::search), Checks.ARGUMENT);
        Checks.due("new room", c.room(), 40);
        Checks.due("no failure told", c.register("C"), 1);
    }

    private static void typeAppends() {
        Checks c = new Checks();
        // Zeros between and behind the characters are left out too.
        Checks.due("zeros", c.registry.type(0x4300004E00000000L), true);
        Checks.due("nothing", c.registry.type(0L), true);
        Checks.due("last byte", c.registry.type(0x4FL), true);
        Checks.due("C N O", Checks.said(c.registry::register), 1);
        Checks.due("first", c.registry.atom(1, 0) & 127, (int) 'C');
        Checks.due("second", c.registry.atom(1, 1) & 127, (int) 'N');
        Checks.due("third", c.registry.atom(1, 2) & 127, (int) 'O');
        Checks.due("lowest character", c.registry.type(33), true);
        Checks.due("highest character", c.registry.type(126), true);
    }

    private static void typeRefuses() {
        Checks c = new Checks();
        long[] bad = {32, 127, 128, 255, 1, 0x4343204343434343L, 0x43437F0000000000L, -1L, Long.MIN_VALUE,
            0x8043434343434343L, 0x4300000000000020L};
        for (long eight : bad) {
            Checks.due("type " + eight, c.registry.type(eight), false);
        }
        Checks.due("refused calls left nothing", c.room(), 40);
        c.registry.wipe();
        for (int i = 0; i < 4; i++) {
            c.typed("CCCCCCCC");
        }
        c.typed("CCC");
        Checks.due("six more than 35 hold", c.registry.type(Checks.packed("CCCCCC", 0)), false);
        Checks.due("a refused one leaves the room", c.registry.type(Checks.packed("CCCCC", 0)), true);
        Checks.due("41st", c.registry.type('C'), false);
        Checks.due("nothing fits a full buffer", c.registry.type(0), true);
        Checks.due("forty atoms", Checks.said(c.registry::register), Checks.UNSUPPORTED);
    }

    private static void wipeEmpties() {
        Checks c = new Checks();
        c.typed("N#N(((");
        c.registry.wipe();
        Checks.due("after wipe", c.room(), 40);
        c.registry.wipe();
        c.registry.wipe();
        Checks.due("wipe twice", c.typed("C").room(), 39);
        c.registry.wipe();
        c.registry.fail(1);
        Checks.due("goes down", c.register("C"), -2);
        c.typed("CC");
        c.registry.wipe();
        Checks.due("the buffer can be used while down", c.room(), 40);
    }

    private static void whenCallsEmptyTheBuffer() {
        Checks c = new Checks();
        c.register("CO");
        Checks.due("register of a new one", c.room(), 40);
        c.register("OC");
        Checks.due("register of the same", c.room(), 40);
        c.lookup("N");
        Checks.due("lookup", c.room(), 40);
        c.search("*");
        Checks.due("search", c.room(), 40);
        c.register("C(");
        Checks.due("register that throws", c.room(), 38);
        c.lookup("FC=O=C");
        Checks.due("lookup that throws", c.room(), 34);
        c.search("CCCCCCCCCCC");
        Checks.due("search that throws", c.room(), 29);
        c.registry.wipe();
        c.registry.fail(4);
        Checks.due("failing register", c.register("F"), -2);
        c.typed("N");
        Checks.due("register while down", Checks.said(c.registry::register), Checks.STATE);
        Checks.due("failing register empties, one while down does not", c.room(), 39);
    }
}
