import java.util.Arrays;

/**
 * A registry of molecules: it reads them as lines of text, checks that their atoms can have these
 * bonds, gives each kind of molecule one number however it is written, finds those that contain a
 * pattern, and keeps what it has done through failing writes.
 */
public final class MoleculeRegistry {
    private static final int MOST_CHARACTERS = 40;
    private static final int MOST_ATOMS = 10;
    private static final int MOST_MOLECULES = 12;
    private static final int NONE = -1;

    // An atom is one number, as the document writes it: its capital letter and these.
    private static final int AROMATIC = 128;
    private static final int HYDROGEN = 256;
    private static final int HYDROGENS = 7 * HYDROGEN;
    private static final int NEUTRAL = 4096;
    private static final int PLUS = 8192;
    private static final int CHARGES = NEUTRAL + PLUS;
    private static final int LETTER = 127;
    // A pattern's * or list is this and the set of its elements, a bit each.
    private static final int LIST = 16384;
    private static final int ANY_ATOM = LIST + 31;

    private static final String ELEMENTS = "CNOSF";
    private static final String AROMATIC_LETTERS = "cnos";
    private static final int[] VALENCES = {4, 3, 2, 2, 1};

    // A link that is nothing, and the bonds; the last of them is a pattern's ~ alone.
    private static final int NOTHING = 0;
    private static final int SINGLE = 1;
    private static final int DOUBLE = 2;
    private static final int TRIPLE = 3;
    private static final int AROMATIC_BOND = 4;
    private static final int ANY_BOND = 5;
    private static final int KINDS = 6;

    private static final int NO_FAILURE = 0;
    private static final int LOG_WRITE = 1;
    private static final int MARK_WRITE = 2;
    private static final int CHANGE_WRITE = 3;
    private static final int EMPTY_WRITE = 4;
    private static final int FAILED = -2;

    private final char[] buffer = new char[MOST_CHARACTERS];
    private int typed;
    private final Reader reader = new Reader();
    private final Graph read = new Graph();
    private final Matcher matcher = new Matcher();
    private final Shelf shelf = new Shelf();
    private final Log log = new Log();
    private final int[] hits = new int[MOST_MOLECULES];
    private int hitCount;
    private int toldFailure = NO_FAILURE;
    private boolean down;

    public MoleculeRegistry() {
    }

    public boolean type(long eight) {
        int more = 0;
        for (int shift = 56; shift >= 0; shift -= 8) {
            int code = byteAt(eight, shift);
            if (code != 0 && (code < 33 || code > 126)) {
                return false;
            }
            if (code != 0) {
                more++;
            }
        }
        if (typed + more > MOST_CHARACTERS) {
            return false;
        }
        append(eight);
        return true;
    }

    private static int byteAt(long eight, int shift) {
        return (int) (eight >>> shift) & 255;
    }

    private void append(long eight) {
        for (int shift = 56; shift >= 0; shift -= 8) {
            int code = byteAt(eight, shift);
            if (code != 0 && typed < MOST_CHARACTERS) {
                buffer[typed] = (char) code;
                typed++;
            }
        }
    }

    public void wipe() {
        typed = 0;
    }

    public int register() throws IllegalStateException, IllegalArgumentException,
            UnsupportedOperationException, ArithmeticException, IndexOutOfBoundsException {
        readBuffer(false);
        int answer = idOfSame();
        if (answer == 0) {
            if (shelf.size >= MOST_MOLECULES) {
                throw new IndexOutOfBoundsException("the registry is full");
            }
            int id = shelf.lastId + 1;
            answer = change(false, id) ? id : FAILED;
        }
        typed = 0;
        return answer;
    }

    public int lookup() throws IllegalStateException, IllegalArgumentException,
            UnsupportedOperationException, ArithmeticException {
        readBuffer(false);
        typed = 0;
        return idOfSame();
    }

    public int search() throws IllegalStateException, IllegalArgumentException,
            UnsupportedOperationException {
        readBuffer(true);
        typed = 0;
        hitCount = 0;
        for (int slot = 0; slot < shelf.size; slot++) {
            if (matcher.isIn(read, shelf.molecules[slot])) {
                hits[hitCount] = shelf.ids[slot];
                hitCount++;
            }
        }
        return hitCount;
    }

    public int found(int k) {
        return k >= 0 && k < hitCount ? hits[k] : 0;
    }

    public int remove(int id) throws IllegalStateException {
        refuseWhenDown();
        if (shelf.slotOf(id) == NONE) {
            return 0;
        }
        return change(true, id) ? 1 : FAILED;
    }

    public boolean fail(int n) {
        if (down || n < NO_FAILURE || n > EMPTY_WRITE) {
            return false;
        }
        toldFailure = n;
        return true;
    }

    public int recover() {
        if (!down) {
            return -1;
        }
        boolean done = log.marked;
        if (done) {
            carryOut();
        }
        log.clear();
        down = false;
        return done ? 1 : 0;
    }

    public int count() {
        return down ? -1 : shelf.size;
    }

    public int atoms(int id) {
        Graph molecule = visible(id);
        return molecule == null ? 0 : molecule.size;
    }

    public int atom(int id, int i) {
        Graph molecule = visible(id);
        return molecule == null || !molecule.has(i) ? 0 : molecule.codes[i];
    }

    public int bond(int id, int i, int j) {
        Graph molecule = visible(id);
        return molecule == null || !molecule.has(i) || !molecule.has(j) ? NOTHING : molecule.kindBetween(i, j);
    }

    /** The molecule with this ID, null when there is none or the registry can't be used. */
    private Graph visible(int id) {
        int slot = down ? NONE : shelf.slotOf(id);
        return slot == NONE ? null : shelf.molecules[slot];
    }

    private void refuseWhenDown() {
        if (down) {
            throw new IllegalStateException("the registry is down");
        }
    }

    private void readBuffer(boolean asPattern) {
        refuseWhenDown();
        reader.start(buffer, typed, asPattern);
        if (!reader.readAtoms() || reader.aDigitIsOpen()) {
            throw new IllegalArgumentException("the text is not of the form, or has a bond that can't be");
        }
        if (reader.size > MOST_ATOMS) {
            throw new UnsupportedOperationException("the text has too many atoms");
        }
        reader.fill(read);
        if (!asPattern && !Chemistry.settle(read, reader.written)) {
            throw new ArithmeticException("an atom can't have these bonds");
        }
    }

    /** The ID of the molecule that is the same as the one just read, 0 when there is none. */
    private int idOfSame() {
        for (int slot = 0; slot < shelf.size; slot++) {
            if (matcher.areSame(read, shelf.molecules[slot])) {
                return shelf.ids[slot];
            }
        }
        return 0;
    }

    /** Does the four writes, as far as the told failure lets it; true when all four were done. */
    private boolean change(boolean removing, int id) {
        int failure = toldFailure == NO_FAILURE ? EMPTY_WRITE + 1 : toldFailure;
        toldFailure = NO_FAILURE;
        hitCount = 0;
        if (failure > LOG_WRITE) {
            log.write(removing, id, read);
        }
        if (failure > MARK_WRITE) {
            log.marked = true;
        }
        if (failure > CHANGE_WRITE) {
            carryOut();
        }
        if (failure > EMPTY_WRITE) {
            log.clear();
        }
        down = failure <= EMPTY_WRITE;
        return !down;
    }

    /** Does what the log says, unless the registry shows that it was done before. */
    private void carryOut() {
        boolean there = shelf.slotOf(log.id) != NONE;
        if (log.removing && there) {
            shelf.take(log.id);
        }
        if (!log.removing && !there) {
            shelf.put(log.id, log.molecule);
        }
    }

    /** The atoms and bonds of a molecule or a pattern. */
    private static final class Graph {
        private final int[] codes = new int[MOST_ATOMS];
        private final int[] kinds = new int[MOST_ATOMS * MOST_ATOMS];
        // For each kind of bond and each atom the set of the atoms it is bound to so, a bit each;
        // every bond stands under ANY_BOND too. The matcher works on whole sets.
        private final int[] near = new int[KINDS * MOST_ATOMS];
        private int size;
        private int bondCount;

        void clear() {
            Arrays.fill(codes, 0);
            Arrays.fill(kinds, NOTHING);
            Arrays.fill(near, 0);
            size = 0;
            bondCount = 0;
        }

        void copyFrom(Graph other) {
            System.arraycopy(other.codes, 0, codes, 0, codes.length);
            System.arraycopy(other.kinds, 0, kinds, 0, kinds.length);
            System.arraycopy(other.near, 0, near, 0, near.length);
            size = other.size;
            bondCount = other.bondCount;
        }

        void add(int code) {
            if (size < MOST_ATOMS) {
                codes[size] = code;
                size++;
            }
        }

        void join(int a, int b, int kind) {
            if (has(a) && has(b)) {
                joinOneWay(a, b, kind);
                joinOneWay(b, a, kind);
                bondCount++;
            }
        }

        private void joinOneWay(int a, int b, int kind) {
            kinds[a * MOST_ATOMS + b] = kind;
            near[kind * MOST_ATOMS + a] |= 1 << b;
            near[ANY_BOND * MOST_ATOMS + a] |= 1 << b;
        }

        boolean has(int a) {
            return a >= 0 && a < size;
        }

        int kindBetween(int a, int b) {
            return kinds[a * MOST_ATOMS + b];
        }

        int boundTo(int a, int kind) {
            return near[kind * MOST_ATOMS + a];
        }

        int degree(int a, int kind) {
            return Integer.bitCount(near[kind * MOST_ATOMS + a]);
        }
    }

    /** Reads a text; it has room for more atoms than a molecule may have, as a text is judged by its form first. */
    private static final class Reader {
        private static final char END = 0;
        private static final int NOT_WRITTEN = -1;

        private final char[] text = new char[MOST_CHARACTERS];
        private int length;
        private int position;
        private boolean asPattern;
        private final int[] codes = new int[MOST_CHARACTERS];
        // The hydrogens written in an atom's brackets.
        private final int[] written = new int[MOST_CHARACTERS];
        private int size;
        private final int[] bondFirst = new int[MOST_CHARACTERS];
        private final int[] bondSecond = new int[MOST_CHARACTERS];
        private final int[] bondKind = new int[MOST_CHARACTERS];
        private int bondCount;
        private final int[] openAtom = new int[10];
        private final int[] openLink = new int[10];
        private final int[] branches = new int[MOST_CHARACTERS];
        private int depth;

        void start(char[] newText, int newLength, boolean newAsPattern) {
            length = Math.min(newLength, MOST_CHARACTERS);
            System.arraycopy(newText, 0, text, 0, length);
            asPattern = newAsPattern;
            position = 0;
            size = 0;
            bondCount = 0;
            depth = 0;
            Arrays.fill(openAtom, NONE);
        }

        void fill(Graph into) {
            into.clear();
            for (int a = 0; a < size; a++) {
                into.add(codes[a]);
            }
            for (int n = 0; n < bondCount; n++) {
                into.join(bondFirst[n], bondSecond[n], bondKind[n]);
            }
        }

        /** Each pass reads one atom with its closures, and what stands between it and the next atom. */
        boolean readAtoms() {
            int owner = NONE;
            for (int pass = 0; pass < MOST_CHARACTERS; pass++) {
                int link = owner == NONE ? NOTHING : readLink();
                int a = readAtom() ? size - 1 : NONE;
                if (a == NONE || (owner != NONE && !bind(owner, a, link)) || !readClosures(a)) {
                    return false;
                }
                owner = readPartEnds(a);
                if (owner == NONE) {
                    return false;
                }
                if (position >= length) {
                    return depth == 0;
                }
                readPartStart(owner);
            }
            return false;
        }

        /** The atom that the next part belongs to when all that ends here has ended. */
        private int readPartEnds(int a) {
            int owner = a;
            for (int n = 0; n < MOST_CHARACTERS && here() == ')'; n++) {
                if (depth == 0) {
                    return NONE;
                }
                depth--;
                owner = branches[depth];
                position++;
            }
            return owner;
        }

        private void readPartStart(int owner) {
            if (here() == '(' && depth < MOST_CHARACTERS) {
                branches[depth] = owner;
                depth++;
                position++;
            }
        }

        private char here() {
            return position < length ? text[position] : END;
        }

        private boolean takes(char wanted) {
            boolean there = position < length && text[position] == wanted;
            if (there) {
                position++;
            }
            return there;
        }

        private int readLink() {
            if (takes('-')) {
                return SINGLE;
            }
            if (takes('=')) {
                return DOUBLE;
            }
            if (takes('#')) {
                return TRIPLE;
            }
            return asPattern && takes('~') ? ANY_BOND : NOTHING;
        }

        private boolean readClosures(int a) {
            for (int n = 0; n < MOST_CHARACTERS; n++) {
                int behindLast = position;
                int link = readLink();
                char digit = here();
                if (digit < '1' || digit > '9') {
                    position = behindLast;
                    return true;
                }
                position++;
                if (!openOrClose(digit - '0', a, link)) {
                    return false;
                }
            }
            return true;
        }

        private boolean openOrClose(int digit, int a, int link) {
            int first = openAtom[digit];
            if (first == NONE) {
                openAtom[digit] = a;
                openLink[digit] = link;
                return true;
            }
            openAtom[digit] = NONE;
            int firstLink = openLink[digit];
            if (firstLink != NOTHING && link != NOTHING && firstLink != link) {
                return false;
            }
            return bind(first, a, firstLink == NOTHING ? link : firstLink);
        }

        boolean aDigitIsOpen() {
            for (int digit = 1; digit <= 9; digit++) {
                if (openAtom[digit] != NONE) {
                    return true;
                }
            }
            return false;
        }

        private boolean bind(int a, int b, int link) {
            int kind = kindFor(a, b, link);
            if (a == b || kind == NOTHING || areBound(a, b) || bondCount >= MOST_CHARACTERS) {
                return false;
            }
            bondFirst[bondCount] = a;
            bondSecond[bondCount] = b;
            bondKind[bondCount] = kind;
            bondCount++;
            return true;
        }

        private boolean areBound(int a, int b) {
            for (int n = 0; n < bondCount; n++) {
                boolean same = bondFirst[n] == a && bondSecond[n] == b;
                if (same || (bondFirst[n] == b && bondSecond[n] == a)) {
                    return true;
                }
            }
            return false;
        }

        /** The bond that a link makes between these atoms, NOTHING when they can't have it. */
        private int kindFor(int a, int b, int link) {
            int either = codes[a] | codes[b];
            if (link == NOTHING) {
                return (codes[a] & codes[b] & AROMATIC) != 0 ? AROMATIC_BOND : SINGLE;
            }
            if (link == DOUBLE || link == TRIPLE) {
                // A list or * may have any bond, to an aromatic atom too.
                return (either & AROMATIC) != 0 && (either & LIST) == 0 ? NOTHING : link;
            }
            return link;
        }

        private boolean readAtom() {
            char letter = here();
            if (takes('[')) {
                return readBrackets();
            }
            if (asPattern && takes('*')) {
                return addAtom(ANY_ATOM, NOT_WRITTEN);
            }
            position++;
            if (AROMATIC_LETTERS.indexOf(letter) >= 0) {
                return addAtom(letter - 'a' + 'A' + AROMATIC + NEUTRAL, NOT_WRITTEN);
            }
            return ELEMENTS.indexOf(letter) >= 0 && addAtom(letter + NEUTRAL, NOT_WRITTEN);
        }

        private boolean addAtom(int code, int hydrogens) {
            if (size >= MOST_CHARACTERS) {
                return false;
            }
            codes[size] = code;
            written[size] = hydrogens;
            size++;
            return true;
        }

        private boolean readBrackets() {
            char letter = here();
            if (ELEMENTS.indexOf(letter) < 0) {
                return false;
            }
            position++;
            if (asPattern && here() == ',') {
                return readList(letter);
            }
            int hydrogens = readHydrogens();
            int charge = readCharge();
            return takes(']') && addAtom(letter + charge, hydrogens);
        }

        /** Reads the elements behind the first one: at most three, so what is left must be the end. */
        private boolean readList(char first) {
            int elements = 1 << ELEMENTS.indexOf(first);
            for (int n = 0; n < 3 && takes(','); n++) {
                int element = ELEMENTS.indexOf(here());
                if (element < 0) {
                    return false;
                }
                elements |= 1 << element;
                position++;
            }
            return takes(']') && addAtom(LIST + elements, NOT_WRITTEN);
        }

        private int readHydrogens() {
            if (!takes('H')) {
                return 0;
            }
            char digit = here();
            if (digit < '2' || digit > '4') {
                return 1;
            }
            position++;
            return digit - '0';
        }

        private int readCharge() {
            if (takes('+')) {
                return PLUS;
            }
            return takes('-') ? 0 : NEUTRAL;
        }
    }

    /** Whether the atoms of a molecule can have their bonds. */
    private static final class Chemistry {
        /** Gives each atom its hydrogens; false when a valence is wrong or there is no matching. */
        static boolean settle(Graph molecule, int[] written) {
            for (int a = 0; a < molecule.size; a++) {
                int wanting = capacity(molecule.codes[a]) - orders(molecule, a);
                boolean asWritten = written[a] == Reader.NOT_WRITTEN || written[a] == wanting;
                if (wanting < 0 || !asWritten) {
                    return false;
                }
                molecule.codes[a] += HYDROGEN * wanting;
            }
            return canPair(molecule, 0, pairing(molecule));
        }

        private static int capacity(int code) {
            int element = ELEMENTS.indexOf((char) (code & LETTER));
            int valence = element < 0 ? 0 : VALENCES[element];
            int charge = code & CHARGES;
            if (charge == NEUTRAL) {
                return valence;
            }
            // A charged carbon lacks a bond whatever its charge is.
            return charge == PLUS && (code & LETTER) != 'C' ? valence + 1 : valence - 1;
        }

        private static int orders(Graph molecule, int a) {
            int aromatic = molecule.degree(a, AROMATIC_BOND);
            int extra = aromatic > 0 && pairs(molecule.codes[a]) ? 1 : 0;
            return molecule.degree(a, SINGLE) + 2 * molecule.degree(a, DOUBLE)
                    + 3 * molecule.degree(a, TRIPLE) + aromatic + extra;
        }

        private static boolean pairs(int code) {
            int letter = code & LETTER;
            return (code & AROMATIC) != 0 && (letter == 'C' || letter == 'N');
        }

        private static int pairing(Graph molecule) {
            int set = 0;
            for (int a = 0; a < molecule.size; a++) {
                if (pairs(molecule.codes[a])) {
                    set |= 1 << a;
                }
            }
            return set;
        }

        /** Whether the atoms of the set, all from a on, can be joined two by two along aromatic bonds. */
        private static boolean canPair(Graph molecule, int a, int set) {
            if (a >= molecule.size) {
                return true;
            }
            if ((set >> a & 1) == 0) {
                return canPair(molecule, a + 1, set);
            }
            int others = set & ~(1 << a);
            int partners = others & molecule.boundTo(a, AROMATIC_BOND);
            for (int b = a + 1; b < molecule.size; b++) {
                if ((partners >> b & 1) != 0 && canPair(molecule, a + 1, others & ~(1 << b))) {
                    return true;
                }
            }
            return false;
        }
    }

    /** Puts the atoms of one graph to different atoms of another, bond to bond. */
    private static final class Matcher {
        // For each atom of the part the set of the atoms it could go to by itself, and where it is put.
        private final int[] choices = new int[MOST_ATOMS];
        private final int[] places = new int[MOST_ATOMS];

        /** With as many atoms and bonds on both sides, no atom and no bond can be left over. */
        boolean areSame(Graph first, Graph second) {
            return first.size == second.size && first.bondCount == second.bondCount
                    && findChoices(first, second, 0) && canPlace(first, second, 0, everyAtom(second));
        }

        boolean isIn(Graph pattern, Graph molecule) {
            return pattern.size <= molecule.size
                    && findChoices(pattern, molecule, HYDROGENS) && canPlace(pattern, molecule, 0, everyAtom(molecule));
        }

        private static int everyAtom(Graph graph) {
            return (1 << graph.size) - 1;
        }

        /** False when an atom can go nowhere. */
        private boolean findChoices(Graph part, Graph whole, int ignored) {
            for (int a = 0; a < part.size; a++) {
                choices[a] = 0;
                for (int b = 0; b < whole.size; b++) {
                    if (fits(part.codes[a], whole.codes[b] & ~ignored) && hasBondsFor(part, a, whole, b)) {
                        choices[a] |= 1 << b;
                    }
                }
                if (choices[a] == 0) {
                    return false;
                }
            }
            return true;
        }

        private static boolean fits(int wanted, int code) {
            if ((wanted & LIST) == 0) {
                return wanted == code;
            }
            int element = ELEMENTS.indexOf((char) (code & LETTER));
            return element >= 0 && (wanted >> element & 1) != 0;
        }

        /** Leaves out early what could only fail late, when many atoms have been placed. */
        private static boolean hasBondsFor(Graph part, int a, Graph whole, int b) {
            for (int kind = SINGLE; kind <= ANY_BOND; kind++) {
                if (part.degree(a, kind) > whole.degree(b, kind)) {
                    return false;
                }
            }
            return true;
        }

        /** Whether the atoms from a on can be placed on the free ones; those before a are placed. */
        private boolean canPlace(Graph part, Graph whole, int a, int free) {
            if (a >= part.size) {
                return true;
            }
            int set = choices[a] & free;
            for (int before = 0; before < a; before++) {
                int kind = part.kindBetween(a, before);
                if (kind != NOTHING) {
                    set &= whole.boundTo(places[before], kind);
                }
            }
            for (int b = 0; b < whole.size; b++) {
                if ((set >> b & 1) != 0) {
                    places[a] = b;
                    if (canPlace(part, whole, a + 1, free & ~(1 << b))) {
                        return true;
                    }
                }
            }
            return false;
        }
    }

    /** The molecules of the registry in the order of their IDs. */
    private static final class Shelf {
        private final Graph[] molecules = new Graph[MOST_MOLECULES];
        private final int[] ids = new int[MOST_MOLECULES];
        private int size;
        private int lastId;

        Shelf() {
            for (int slot = 0; slot < MOST_MOLECULES; slot++) {
                molecules[slot] = new Graph();
            }
        }

        int slotOf(int id) {
            for (int slot = 0; slot < size; slot++) {
                if (ids[slot] == id) {
                    return slot;
                }
            }
            return NONE;
        }

        void put(int id, Graph molecule) {
            if (size < MOST_MOLECULES) {
                molecules[size].copyFrom(molecule);
                ids[size] = id;
                size++;
                lastId = id;
            }
        }

        /** Moves the graph that becomes free behind the others, where put uses it again. */
        void take(int id) {
            int gone = slotOf(id);
            if (gone == NONE) {
                return;
            }
            Graph freed = molecules[gone];
            for (int slot = gone; slot < size - 1; slot++) {
                molecules[slot] = molecules[slot + 1];
                ids[slot] = ids[slot + 1];
            }
            size--;
            molecules[size] = freed;
        }
    }

    /** What is to be done; a copy, as the buffer and what was read from it may change while the registry is down. */
    private static final class Log {
        private boolean marked;
        private boolean removing;
        private int id;
        private final Graph molecule = new Graph();

        void write(boolean newRemoving, int newId, Graph newMolecule) {
            removing = newRemoving;
            id = newId;
            if (!removing) {
                molecule.copyFrom(newMolecule);
            }
        }

        void clear() {
            marked = false;
            removing = false;
            id = 0;
        }
    }
}
