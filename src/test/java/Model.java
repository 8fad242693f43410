import java.util.ArrayList;
import java.util.Arrays;
import java.util.HashMap;
import java.util.List;
import java.util.Map;
import java.util.TreeMap;

/**
 * The document once more, written with other means: the grammar read by recursion, sameness by trying
 * every order with all bonds compared, matchings by trying every set of bonds. It is held against the class.
 */
final class Model {
    /** One atom: what a pattern may ask of it is a text of elements where it is a list or a star. */
    private static final class Atom {
        char element;
        boolean aromatic;
        int charge;
        int hydrogens = -1;
        String list;
    }

    private static final class Text {
        final List<Atom> atoms = new ArrayList<>();
        final Map<Long, Integer> bonds = new HashMap<>();

        static long key(int a, int b) {
            return Math.min(a, b) * 100L + Math.max(a, b);
        }

        int bond(int a, int b) {
            return bonds.getOrDefault(key(a, b), 0);
        }
    }

    private String buffer = "";
    private final TreeMap<Integer, Text> registry = new TreeMap<>();
    private List<Integer> found = new ArrayList<>();
    private int used = 0;
    private int told = 0;
    private boolean down = false;
    // What recover will do: null when the log was not marked, else the registry as it shall be.
    private TreeMap<Integer, Text> after = null;

    // --- reading

    private String input;
    private boolean pattern;
    private Text text;
    private Map<Character, Integer> openAtom;
    private Map<Character, Character> openLink;

    private static RuntimeException no() {
        return new IllegalArgumentException();
    }

    private char peek(int at) {
        return at < input.length() ? input.charAt(at) : ' ';
    }

    private boolean isLink(char c) {
        return c == '-' || c == '=' || c == '#' || (pattern && c == '~');
    }

    /** Reads a molecule from here on; answers where it ends. */
    private int molecule(int at, int owner, char link) {
        at = atom(at);
        int me = text.atoms.size() - 1;
        if (owner >= 0) {
            bind(owner, me, link);
        }
        while (true) {
            char l = isLink(peek(at)) ? peek(at) : ' ';
            int digitAt = l == ' ' ? at : at + 1;
            char digit = peek(digitAt);
            if ("123456789".indexOf(digit) < 0) {
                break;
            }
            at = digitAt + 1;
            closure(me, digit, l);
        }
        while (peek(at) == '(') {
            at++;
            char l = isLink(peek(at)) ? peek(at++) : ' ';
            at = molecule(at, me, l);
            if (peek(at) != ')') {
                throw no();
            }
            at++;
        }
        if (at < input.length() && peek(at) != ')') {
            char l = isLink(peek(at)) ? peek(at++) : ' ';
            at = molecule(at, me, l);
        }
        return at;
    }

    private void closure(int me, char digit, char link) {
        if (!openAtom.containsKey(digit)) {
            openAtom.put(digit, me);
            openLink.put(digit, link);
            return;
        }
        int other = openAtom.remove(digit);
        char first = openLink.remove(digit);
        if (first != ' ' && link != ' ' && first != link) {
            throw no();
        }
        bind(other, me, first == ' ' ? link : first);
    }

    private void bind(int a, int b, char link) {
        if (a == b || text.bond(a, b) != 0) {
            throw no();
        }
        Atom x = text.atoms.get(a);
        Atom y = text.atoms.get(b);
        int kind = 1 + "-=#.~".indexOf(link);
        if (link == ' ') {
            kind = x.aromatic && y.aromatic ? 4 : 1;
        }
        boolean free = x.list != null || y.list != null;
        if ((kind == 2 || kind == 3) && (x.aromatic || y.aromatic) && !free) {
            throw no();
        }
        text.bonds.put(Text.key(a, b), kind);
    }

    private int atom(int at) {
        Atom atom = new Atom();
        char c = peek(at);
        if (c == '[') {
            int end = input.indexOf(']', at);
            if (end < 0) {
                throw no();
            }
            String inside = input.substring(at + 1, end);
            if (inside.matches("[CNOSF](H[234]?)?[+-]?")) {
                atom.element = inside.charAt(0);
                atom.charge = inside.endsWith("+") ? 1 : inside.endsWith("-") ? -1 : 0;
                int h = inside.indexOf('H');
                atom.hydrogens = h < 0 ? 0 : 1;
                if (h > 0 && h + 1 < inside.length() && Character.isDigit(inside.charAt(h + 1))) {
                    atom.hydrogens = inside.charAt(h + 1) - '0';
                }
            } else if (pattern && inside.matches("[CNOSF](,[CNOSF]){1,3}")) {
                atom.list = inside.replace(",", "");
            } else {
                throw no();
            }
            at = end;
        } else if (pattern && c == '*') {
            atom.list = "CNOSF";
        } else if ("CNOSF".indexOf(c) >= 0) {
            atom.element = c;
        } else if ("cnos".indexOf(c) >= 0) {
            atom.element = Character.toUpperCase(c);
            atom.aromatic = true;
        } else {
            throw no();
        }
        text.atoms.add(atom);
        return at + 1;
    }

    private Text read(boolean asPattern) {
        if (down) {
            throw new IllegalStateException();
        }
        input = buffer;
        pattern = asPattern;
        text = new Text();
        openAtom = new HashMap<>();
        openLink = new HashMap<>();
        if (molecule(0, -1, ' ') != input.length() || !openAtom.isEmpty()) {
            throw no();
        }
        if (text.atoms.size() > 10) {
            throw new UnsupportedOperationException();
        }
        if (!asPattern && !(valences(text) && matching(text))) {
            throw new ArithmeticException();
        }
        return text;
    }

    // --- chemistry

    private static boolean valences(Text t) {
        for (int i = 0; i < t.atoms.size(); i++) {
            Atom a = t.atoms.get(i);
            int orders = 0;
            boolean has4 = false;
            for (int j = 0; j < t.atoms.size(); j++) {
                int bond = t.bond(i, j);
                orders += bond == 4 ? 1 : bond;
                has4 |= bond == 4;
            }
            if (has4 && (a.element == 'C' || a.element == 'N')) {
                orders++;
            }
            int most = Map.of('C', 4, 'N', 3, 'O', 2, 'S', 2, 'F', 1).get(a.element);
            if (a.hydrogens < 0) {
                a.hydrogens = most - orders;
                if (orders > most) {
                    return false;
                }
            } else {
                int exact = a.element == 'C' ? most - Math.abs(a.charge) : most + a.charge;
                if (a.hydrogens + orders != exact) {
                    return false;
                }
            }
        }
        return true;
    }

    private static boolean matching(Text t) {
        List<int[]> pairs = new ArrayList<>();
        int all = 0;
        for (int i = 0; i < t.atoms.size(); i++) {
            if (joins(t.atoms.get(i))) {
                all |= 1 << i;
            }
            for (int j = 0; j < i; j++) {
                if (t.bond(i, j) == 4 && joins(t.atoms.get(i)) && joins(t.atoms.get(j))) {
                    pairs.add(new int[] {i, j});
                }
            }
        }
        boolean[] reached = new boolean[1 << t.atoms.size()];
        reached[0] = true;
        for (int[] pair : pairs) {
            int both = 1 << pair[0] | 1 << pair[1];
            for (int set = reached.length - 1; set >= 0; set--) {
                if (reached[set] && (set & both) == 0) {
                    reached[set | both] = true;
                }
            }
        }
        return reached[all];
    }

    private static boolean joins(Atom a) {
        return a.aromatic && (a.element == 'C' || a.element == 'N');
    }

    // --- comparing

    private static boolean same(Text a, Text b) {
        return a.atoms.size() == b.atoms.size() && put(a, b, new int[a.atoms.size()], 0, true);
    }

    private static boolean put(Text part, Text whole, int[] to, int i, boolean exact) {
        if (i == to.length) {
            return true;
        }
        for (int v = 0; v < whole.atoms.size(); v++) {
            to[i] = v;
            if (fits(part.atoms.get(i), whole.atoms.get(v), exact) && holds(part, whole, to, i, exact)
                    && put(part, whole, to, i + 1, exact)) {
                return true;
            }
        }
        return false;
    }

    private static boolean fits(Atom p, Atom a, boolean exact) {
        if (p.list != null) {
            return p.list.indexOf(a.element) >= 0;
        }
        return p.element == a.element && p.aromatic == a.aromatic && p.charge == a.charge
            && (!exact || p.hydrogens == a.hydrogens);
    }

    private static boolean holds(Text part, Text whole, int[] to, int i, boolean exact) {
        for (int k = 0; k < i; k++) {
            int want = part.bond(i, k);
            int is = whole.bond(to[i], to[k]);
            boolean alike = want == is || (!exact && want == 0) || (want == 5 && is != 0);
            if (to[k] == to[i] || !alike) {
                return false;
            }
        }
        return true;
    }

    // --- the face

    boolean type(long eight) {
        StringBuilder more = new StringBuilder();
        for (int i = 7; i >= 0; i--) {
            char c = (char) (eight >> 8 * i & 255);
            if (c != 0) {
                more.append(c);
            }
        }
        if (!more.toString().matches("[!-~]*") || buffer.length() + more.length() > 40) {
            return false;
        }
        buffer += more;
        return true;
    }

    void wipe() {
        buffer = "";
    }

    private int idOf(Text molecule) {
        for (Map.Entry<Integer, Text> entry : registry.entrySet()) {
            if (same(molecule, entry.getValue())) {
                return entry.getKey();
            }
        }
        return 0;
    }

    int register() {
        Text molecule = read(false);
        int id = idOf(molecule);
        if (id == 0 && registry.size() == 12) {
            throw new IndexOutOfBoundsException();
        }
        buffer = "";
        if (id != 0) {
            return id;
        }
        TreeMap<Integer, Text> next = new TreeMap<>(registry);
        next.put(used + 1, molecule);
        return change(next, used + 1);
    }

    int lookup() {
        int id = idOf(read(false));
        buffer = "";
        return id;
    }

    int search() {
        Text wanted = read(true);
        found = new ArrayList<>();
        for (Map.Entry<Integer, Text> entry : registry.entrySet()) {
            if (put(wanted, entry.getValue(), new int[wanted.atoms.size()], 0, false)) {
                found.add(entry.getKey());
            }
        }
        buffer = "";
        return found.size();
    }

    int found(int k) {
        return k >= 0 && k < found.size() ? found.get(k) : 0;
    }

    int remove(int id) {
        if (down) {
            throw new IllegalStateException();
        }
        if (!registry.containsKey(id)) {
            return 0;
        }
        TreeMap<Integer, Text> next = new TreeMap<>(registry);
        next.remove(id);
        return change(next, 1);
    }

    private int change(TreeMap<Integer, Text> next, int answer) {
        found = new ArrayList<>();
        if (told == 0) {
            become(next);
            return answer;
        }
        down = true;
        after = told >= 3 ? next : null;
        told = 0;
        return -2;
    }

    private void become(TreeMap<Integer, Text> next) {
        registry.clear();
        registry.putAll(next);
        used = next.isEmpty() ? used : Math.max(used, next.lastKey());
    }

    boolean fail(int n) {
        boolean taken = !down && Arrays.asList(0, 1, 2, 3, 4).contains(n);
        told = taken ? n : told;
        return taken;
    }

    int recover() {
        if (!down) {
            return -1;
        }
        down = false;
        if (after == null) {
            return 0;
        }
        become(after);
        after = null;
        return 1;
    }

    int count() {
        return down ? -1 : registry.size();
    }

    int atoms(int id) {
        return down || !registry.containsKey(id) ? 0 : registry.get(id).atoms.size();
    }

    int atom(int id, int i) {
        if (i < 0 || i >= atoms(id)) {
            return 0;
        }
        Atom a = registry.get(id).atoms.get(i);
        return a.element + (a.aromatic ? 128 : 0) + 256 * a.hydrogens + 4096 * (a.charge + 1);
    }

    int bond(int id, int i, int j) {
        int n = atoms(id);
        return i < 0 || j < 0 || i >= n || j >= n ? 0 : registry.get(id).bond(i, j);
    }
}
