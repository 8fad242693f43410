/** The edges of THE BUFFER and of promises 1 to 3, a sentence of the document each. */
final class BufferEdgesTest {
    // Forty characters that are a molecule of eight atoms, so that each of them counts.
    private static final String FORTY = "[CH3][CH2][CH2][CH2][CH2][CH2][CH2][CH3]";
    private static final String ELEVEN_ATOMS = "CCCCCCCCCCC";

    public static void main(String[] args) {
        aNewObject();
        atMostFortyCharacters();
        moreThanForty();
        codes();
        bytesThatAreNoCharacter();
        fromTheHighestToTheLowest();
        allOfItIsRead();
        emptiedByAnswers();
        keptByWhatRegisterThrows();
        keptByWhatLookupThrows();
        keptByWhatSearchThrows();
        wipeEmpties();
        usedWhileDown();
        Checks.end();
    }

    private static void aNewObject() {
        Checks.sentence("No molecules, an empty buffer, no failure told.");
        Checks c = new Checks();
        Checks.due("what is there", c.shown(3), "count 0 / 0:0 / 1:0 / 2:0 / 3:0");
        Checks.due("found", c.foundAll(), "");
        Checks.due("recover", c.registry.recover(), -1);
        Checks.due("remove 1", c.remove(1), 0);
        Checks.due("register", Checks.said(c.registry::register), Checks.ARGUMENT);
        Checks.due("lookup", Checks.said(c.registry::lookup), Checks.ARGUMENT);
        Checks.due("search", Checks.said(c.registry::search), Checks.ARGUMENT);
        Checks.due("room", c.room(), 40);
        Checks.due("search of *", c.search("*"), 0);
        Checks.due("no failure comes", c.register("C"), 1);
        Checks.due("nor then", c.remove(1), 1);
    }

    private static void atMostFortyCharacters() {
        Checks.sentence("THE BUFFER holds at most 40 characters");
        Checks c = new Checks().typed(FORTY);
        Checks.due("a 41st", c.registry.type(']'), false);
        Checks.due("a 41st and more", c.registry.type(Checks.packed("CCCCCCCC", 0)), false);
        Checks.due("nothing", c.registry.type(0), true);
        Checks.due("the forty", Checks.said(c.registry::register), 1);
        Checks.due("are octane", c.lookup("CCCCCCCC"), 1);
        c.registry.wipe();
        c.typed(FORTY.substring(0, 39));
        Checks.due("a 40th and a 41st", c.registry.type(Checks.packed("]]", 0)), false);
        Checks.due("39 were left", Checks.said(c.registry::lookup), Checks.ARGUMENT);
        Checks.due("a 40th", c.registry.type(']'), true);
        Checks.due("now it is whole", Checks.said(c.registry::lookup), 1);
    }

    private static void moreThanForty() {
        Checks.sentence("Refused (false) when .. there would be more than 40.");
        for (int before = 30; before <= 40; before++) {
            for (int more = 0; more <= 8; more++) {
                Checks c = new Checks().typed("C".repeat(before));
                boolean fits = before + more <= 40;
                Checks.due(more + " behind " + before, c.registry.type(Checks.packed("CCCCCCCC", 8 - more)), fits);
                Checks.due("room behind it", c.room(), 40 - before - (fits ? more : 0));
            }
        }
    }

    private static void codes() {
        Checks.sentence("codes 33 .. 126");
        for (int code = 0; code <= 255; code++) {
            for (int shift = 0; shift < 64; shift += 8) {
                long others = 0x4343434343434343L & ~(255L << shift);
                Checks c = new Checks().typed("N");
                boolean taken = code == 0 || (code >= 33 && code <= 126);
                Checks.due("code " + code + " in byte " + shift / 8, c.registry.type(others | (long) code << shift), taken);
                int more = code == 0 ? 7 : 8;
                Checks.due("room behind it", c.room(), 39 - (taken ? more : 0));
            }
        }
    }

    private static void bytesThatAreNoCharacter() {
        Checks.sentence("Refused (false) when a byte is neither 0 nor a character");
        long[] refused = {1, 32, 127, 128, 255, -1L, Long.MIN_VALUE, Long.MAX_VALUE, Integer.MIN_VALUE, 0x2000000000000000L,
            0x7F00000000000000L, 0x4E00000000000020L, 0x204E000000000000L};
        for (long eight : refused) {
            Checks c = new Checks().typed("N");
            Checks.due("type " + eight, c.registry.type(eight), false);
            Checks.due("nothing went in", Checks.said(c.registry::register), 1);
            Checks.due("one atom", c.registry.atoms(1), 1);
        }
    }

    private static void fromTheHighestToTheLowest() {
        Checks.sentence("Appends the characters that are the bytes of eight, from the highest to the lowest, zeros left out: true.");
        String letters = "CNOSCNSO";
        for (int set = 0; set < 256; set++) {
            StringBuilder want = new StringBuilder();
            long eight = 0;
            for (int i = 0; i < 8; i++) {
                boolean there = (set >> i & 1) != 0;
                want.append(there ? letters.substring(i, i + 1) : "");
                eight = eight << 8 | (there ? letters.charAt(i) : 0);
            }
            Checks c = new Checks().typed("N");
            Checks.due("type of " + want, c.registry.type(eight), true);
            Checks.due("register behind it", Checks.said(c.registry::register), 1);
            StringBuilder got = new StringBuilder();
            for (int i = 1; i < c.registry.atoms(1); i++) {
                got.append((char) (c.registry.atom(1, i) & 127));
            }
            Checks.due("characters behind N", got, want);
        }
    }

    private static void allOfItIsRead() {
        Checks.sentence("register, lookup and search read all of it");
        for (int last = 33; last <= 126; last++) {
            String text = FORTY.substring(0, 39) + (char) last;
            boolean whole = last == ']';
            Checks.due("register of " + text, new Checks().register(text), whole ? "1" : Checks.ARGUMENT);
            Checks.due("lookup of " + text, new Checks().lookup(text), whole ? "0" : Checks.ARGUMENT);
            Checks.due("search of " + text, new Checks().search(text), whole ? "0" : Checks.ARGUMENT);
        }
        Checks.due("search of forty", Checks.with("CCCCCCCC").search(FORTY), 1);
        Checks.due("what the latest text left is not read", Checks.with(FORTY).register("C"), 2);
    }

    private static void emptiedByAnswers() {
        Checks.sentence("and empty it when they answer");
        emptyBehind("a register of a new molecule", Checks.with(), "CO", 'r', 1);
        emptyBehind("a register of the same", Checks.with("C", "CO"), "OC", 'r', 2);
        emptyBehind("a lookup of what is there", Checks.with("CO"), "OC", 'l', 1);
        emptyBehind("a lookup of what is not there", Checks.with("C"), "OC", 'l', 0);
        emptyBehind("a search that finds", Checks.with("CO"), "*O", 's', 1);
        emptyBehind("a search that does not find", Checks.with("C"), "*O", 's', 0);
        for (int n = 1; n <= 4; n++) {
            Checks c = Checks.with("C");
            Checks.due("fail", c.registry.fail(n), true);
            emptyBehind("a register that fails at " + n, c, "CO", 'r', -2);
        }
        emptyBehind("a register of forty characters", Checks.with(), FORTY, 'r', 1);
    }

    private static void emptyBehind(String what, Checks c, String text, char call, int answer) {
        c.registry.wipe();
        c.typed(text);
        Checks.due(what, reads(c, call), answer);
        Checks.due("room behind " + what, c.room(), 40);
    }

    private static String reads(Checks c, char call) {
        if (call == 'r') {
            return Checks.said(c.registry::register);
        }
        return call == 'l' ? Checks.said(c.registry::lookup) : Checks.said(c.registry::search);
    }

    /** The text throws; with more behind it, it is a molecule or a pattern, if it stayed as it was. */
    private static void staysBehind(Checks c, char call, String text, String exception, String more, Object answer) {
        c.registry.wipe();
        c.typed(text);
        Checks.due(call + " of " + text, reads(c, call), exception);
        Checks.due(call + " of " + text + " again", reads(c, call), exception);
        c.typed(more);
        Checks.due(call + " of " + text + more, reads(c, call), answer);
    }

    private static void keptByWhatRegisterThrows() {
        Checks.sentence("when they throw it stays as it is (register)");
        staysBehind(Checks.with("CC"), 'r', "C(", Checks.ARGUMENT, "C)", 1);
        staysBehind(Checks.with("CC"), 'r', "c", Checks.ARITHMETIC, "c", 2);
        staysBehind(Checks.with("CC"), 'r', ELEVEN_ATOMS, Checks.UNSUPPORTED, "1", Checks.ARGUMENT);
        Checks large = Checks.with();
        large.register(ELEVEN_ATOMS);
        Checks.due("room behind eleven atoms", large.room(), 29);
        Checks full = Checks.with(Checks.TWELVE);
        Checks.due("a thirteenth", full.register("NS"), Checks.INDEX);
        Checks.due("remove", full.remove(1), 1);
        Checks.due("it stayed", Checks.said(full.registry::register), 13);
        Checks.due("as it was", full.registry.atoms(13), 2);
        Checks down = Checks.downAt(1, "CC");
        Checks.due("register while DOWN", down.register("CO"), Checks.STATE);
        Checks.due("recover", down.registry.recover(), 0);
        Checks.due("it stayed", Checks.said(down.registry::register), 2);
    }

    private static void keptByWhatLookupThrows() {
        Checks.sentence("when they throw it stays as it is (lookup)");
        staysBehind(Checks.with("CC"), 'l', "C(", Checks.ARGUMENT, "C)", 1);
        staysBehind(Checks.with("CC", "cc"), 'l', "c", Checks.ARITHMETIC, "c", 2);
        staysBehind(Checks.with("CC"), 'l', ELEVEN_ATOMS, Checks.UNSUPPORTED, "1", Checks.ARGUMENT);
        Checks large = Checks.with();
        large.lookup(ELEVEN_ATOMS);
        Checks.due("room behind eleven atoms", large.room(), 29);
        Checks down = Checks.downAt(1, "CC");
        Checks.due("lookup while DOWN", down.lookup("C-C"), Checks.STATE);
        Checks.due("recover", down.registry.recover(), 0);
        Checks.due("it stayed", Checks.said(down.registry::lookup), 1);
    }

    private static void keptByWhatSearchThrows() {
        Checks.sentence("when they throw it stays as it is (search)");
        staysBehind(Checks.with("CC"), 's', "*(", Checks.ARGUMENT, "C)", 1);
        staysBehind(Checks.with("CC"), 's', ELEVEN_ATOMS, Checks.UNSUPPORTED, "1", Checks.ARGUMENT);
        Checks large = Checks.with();
        large.search(ELEVEN_ATOMS);
        Checks.due("room behind eleven atoms", large.room(), 29);
        Checks down = Checks.downAt(1, "CC");
        Checks.due("search while DOWN", down.search("C~*"), Checks.STATE);
        Checks.due("recover", down.registry.recover(), 0);
        Checks.due("it stayed", Checks.said(down.registry::search), 1);
    }

    private static void wipeEmpties() {
        Checks.sentence("Empties the buffer.");
        for (String text : new String[] {"", "C", "C(((", FORTY, "!~"}) {
            Checks c = Checks.with("C", "CC").typed(text);
            c.registry.wipe();
            Checks.due("register behind a wipe of " + text, Checks.said(c.registry::register), Checks.ARGUMENT);
            c.registry.wipe();
            Checks.due("room behind two wipes of " + text, c.room(), 40);
        }
        Checks c = Checks.with("C", "CC");
        c.search("CC");
        String before = c.shown(3);
        c.registry.fail(1);
        c.registry.wipe();
        Checks.due("found", c.foundAll(), "2");
        Checks.due("what is there", c.shown(3), before);
        Checks.due("the told failure", c.register("N"), -2);
    }

    private static void usedWhileDown() {
        Checks.sentence("While it is DOWN only the buffer and recover can be used. (the buffer)");
        for (int n = 1; n <= 4; n++) {
            Checks c = Checks.downAt(n, "CC");
            Checks.due("it was emptied", c.room(), 40);
            Checks.due("it is full", c.registry.type('C'), false);
            Checks.due("a byte that is no character", c.registry.type(32), false);
            c.registry.wipe();
            c.typed("C");
            c.typed("C");
            Checks.due("recover", c.registry.recover(), n >= 3 ? 1 : 0);
            Checks.due("what was typed is there", Checks.said(c.registry::lookup), 1);
        }
    }
}
