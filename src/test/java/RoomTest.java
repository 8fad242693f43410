import java.lang.management.ManagementFactory;

/** All calls of a run live in one room: they make few objects, and hard cases end soon. */
final class RoomTest {
    // Ten carbons with four bonds each, twice, and with three bonds each; a digit opens anew where it closed.
    private static final String KNOT = "C123C45C11C44C11C44C11C44C12C453";
    private static final String SIDES = "C123C45C67C11C44C66C11C24C56C371";
    private static final String PETERSEN = "C12C3C4C5C1C1C3C5C2C41";

    // A hundredth of the room, which has 7.3 million fields and elements, at four bytes each.
    private static final long MOST_BYTES = 292_000;

    public static void main(String[] args) {
        callsMakeLittle();
        hardSearchesEnd();
        callsBeyondTheLast();
        Checks.end();
    }

    private static void callsMakeLittle() {
        com.sun.management.ThreadMXBean threads = (com.sun.management.ThreadMXBean) ManagementFactory.getThreadMXBean();
        MoleculeRegistry registry = new MoleculeRegistry();
        long me = Thread.currentThread().getId();
        round(registry, 1);
        long before = threads.getThreadAllocatedBytes(me);
        for (int i = 2; i <= 34; i++) {
            round(registry, i);
        }
        long made = threads.getThreadAllocatedBytes(me) - before;
        Checks.due("bytes made by 33 rounds of 15 calls are few: " + made, made < MOST_BYTES, true);
    }

    private static void round(MoleculeRegistry registry, int id) {
        registry.type(0x433143434F433100L);
        registry.register();
        registry.type(0x433143434F433100L);
        registry.lookup();
        registry.type(0x2A7E2AL);
        registry.search();
        registry.found(0);
        registry.count();
        registry.atoms(id);
        registry.atom(id, 0);
        registry.bond(id, 0, 1);
        registry.fail(3);
        registry.remove(id);
        registry.recover();
        registry.wipe();
    }

    private static void hardSearchesEnd() {
        Checks c = new Checks();
        Checks.due("ring with chords", c.register(KNOT), 1);
        Checks.due("two sides of five", c.register(SIDES), 2);
        Checks.due("Petersen's graph", c.register(PETERSEN), 3);
        Checks.due("a path that nearly fits", c.search("*~*~*~*~*~*~*~*~*~[N,O]"), 0);
        Checks.due("a path with a double bond", c.search("*~*~*~*~*~*~*~*~*=*"), 0);
        Checks.due("five neighbours", c.search("*(~*)(~*)(~*)(~*)~*"), 0);
        Checks.due("a ring of all ten", c.search("*~1~*~*~*~*~*~*~*~*~*~1"), 2);
        Checks.due("which Petersen's graph has not", c.foundAll(), "1 2");
        Checks.due("a ring of nine", c.search("*~1~*~*~*~*~*~*~*~*~1"), 2);
        Checks.due("which two sides have not", c.foundAll(), "1 3");
    }

    /** What is answered after the 512th call is free; but nothing else than the face's exceptions may come, and soon. */
    private static void callsBeyondTheLast() {
        MoleculeRegistry registry = new MoleculeRegistry();
        for (int i = 1; i <= 2000; i++) {
            int id = i;
            registry.wipe();
            registry.type(0x434FL);
            Checks.due("a register far behind the last call ends", endsWell(Checks.said(registry::register)), true);
            Checks.due("a remove far behind the last call ends", endsWell(Checks.said(() -> registry.remove(id))), true);
        }
    }

    private static boolean endsWell(String answer) {
        String face = String.join(" ", Checks.STATE, Checks.ARGUMENT, Checks.UNSUPPORTED, Checks.ARITHMETIC, Checks.INDEX);
        return !answer.startsWith("throws.") || face.contains(answer);
    }
}
