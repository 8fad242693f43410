import java.util.ArrayList;
import java.util.Collections;
import java.util.List;
import java.util.Random;

/** Promises 4 and 5: one ID for a kind of molecule however it is written, and another for every other kind. */
final class SameTest {
    public static void main(String[] args) {
        writtenDifferently();
        differentMolecules();
        lookupChangesNothing();
        idsGoOn();
        rewritten();
        Checks.end();
    }

    private static void same(String first, String... others) {
        Checks c = new Checks();
        Checks.due("register of " + first, c.register(first), 1);
        for (String other : others) {
            Checks.due("lookup of " + other + " after " + first, c.lookup(other), 1);
            Checks.due("register of " + other + " after " + first, c.register(other), 1);
        }
        Checks.due("count after " + first, c.registry.count(), 1);
    }

    private static void different(String... texts) {
        Checks c = new Checks();
        for (int i = 0; i < texts.length; i++) {
            Checks.due("lookup of " + texts[i], c.lookup(texts[i]), 0);
            Checks.due("register of " + texts[i], c.register(texts[i]), i + 1);
        }
        for (int i = 0; i < texts.length; i++) {
            Checks.due("again " + texts[i], c.register(texts[i]), i + 1);
        }
    }

    private static void writtenDifferently() {
        same("CCO", "OCC", "C(O)C", "C(C)O", "C-C-O", "[CH3]CO", "C[CH2][OH]", "O(CC)", "C(CO)");
        same("C", "[CH4]");
        same("C=1CC1", "C1=CC1", "C1CC=1", "C1C=C1", "C=1CC=1");
        same("c1ccccc1O", "Oc1ccccc1", "c1ccc(cc1)O", "c9cccc(c9)-O", "c1c(O)cccc1");
        same("o1cccc1", "c1ccoc1", "c1cocc1", "c1occc1");
        same("C1CC1C1CC1", "C1CC1C2CC2", "C1(CC1)C1CC1");
        same("[O-]C=O", "O=C[O-]", "C(=O)[O-]", "C([O-])=O");
        same("C12C3C4C1C5C2C3C45", "C12C5C4C1C3C2C5C34", "C12C3C4C1C5C4C3C25");
        same("CC(C)(C)C", "C(C)(C)(C)C", "C(C(C)(C)C)");
    }

    private static void differentMolecules() {
        different("C", "N", "O", "S", "F", "cc", "C=C", "CC", "C#C", "c1ccccc1", "C1=CC=CC=C1", "o");
        // The same letters: other bonds, aromatic or not, charges, and places.
        different("CCCO", "CC(C)O", "COCC", "C1CC1O", "C=CCO", "CC=CO", "C#CCO", "CC(=O)C", "CCC=O");
        different("[CH3+]", "[CH3-]", "C", "[NH4+]", "N", "[NH2-]", "[OH-]", "O", "[OH3+]", "[F-]", "F", "[FH2+]");
        different("o", "O", "s", "S", "oo", "OO", "so", "SO", "o-o", "O=O", "s-s", "ss");
        // As many bonds and neighbours everywhere: a ring of six with bridges of one kind or the other.
        different("C12C3C4C1C5C2C3C45", "C1CCCCC1C1CC1", "C1CCCC1C1CCC1");
        different("C1=CC=CC=CC=C1", "C1=CC=CC2=CC=C12", "c1cccccc-c1", "c1ccccccc1");
        // Two rings of five or of four and six, all with the same numbers of neighbours.
        different("C1CC2CCC1C2", "C1CCC2CC2C1", "C1CC2CCC2C1");
        same("C1CC2CCC1C2", "C1CC2CC1CC2");
        different("c1cccc2c1cccc2", "c1ccccc1-cccc", "c1ccccccccc1");
    }

    private static void lookupChangesNothing() {
        Checks c = new Checks();
        Checks.due("lookup in none", c.lookup("CO"), 0);
        Checks.due("count", c.registry.count(), 0);
        c.registry.fail(1);
        Checks.due("lookup writes nothing, so nothing fails", c.lookup("CO"), 0);
        Checks.due("the failure waits", c.register("CO"), -2);
    }

    private static void idsGoOn() {
        Checks c = new Checks();
        for (int i = 1; i <= 40; i++) {
            Checks.due("register", c.register("CN"), i);
            Checks.due("remove", c.remove(i), 1);
            Checks.due("gone", c.lookup("CN"), 0);
        }
        Checks.due("after all", c.register("C"), 41);
    }

    private static final String[] MOLECULES = {
        "CC(C)(F)C=O", "c1ccccc1C(=O)O", "C1CC2CCC1C2", "n1ccccc1N", "C12C3C4C1C5C2C3C45", "[O-]C(=O)C[NH3+]",
        "c1ccc2c(c1)cccc2", "C1CC1C1CC1", "c1cc-2c1cc2", "s1cccc1-o", "C#CC=CC#N", "C(F)(F)(S)C1CC1", "C123CC1C2C3",
        "C1=CC=CC=C1", "o1ccocc1N", "C1C2CC3C1C(C2)C3",
    };

    /** Writes molecules anew from any atom in any order, as atom and bond tell them. */
    private static void rewritten() {
        Random random = new Random(7);
        int done = 0;
        for (String text : MOLECULES) {
            String shown = text;
            for (int round = 0; round < 60; round++) {
                Checks c = new Checks();
                c.register("F");
                boolean registered = c.register(shown).equals("2");
                if (!registered) {
                    Checks.due("register of " + shown, "no 2", "2");
                    break;
                }
                String again = new Writer(c.registry, 2, random).write();
                if (again.length() <= 40) {
                    done++;
                    Checks.due(again + " is " + shown, c.register(again), 2);
                    shown = again;
                }
            }
        }
        Checks.due("enough was written anew", done > 600, true);
    }

    /** Writes one molecule: a tree of parts from some atom on, closures for the bonds that are left. */
    private static final class Writer {
        private final Counted registry;
        private final int id;
        private final Random random;
        private final int size;
        private final int[] seen;
        private final List<List<String>> closures = new ArrayList<>();
        private final List<List<Integer>> children = new ArrayList<>();
        private final List<int[]> rings = new ArrayList<>();

        Writer(Counted registry, int id, Random random) {
            this.registry = registry;
            this.id = id;
            this.random = random;
            size = registry.atoms(id);
            seen = new int[size];
            for (int i = 0; i < size; i++) {
                closures.add(new ArrayList<>());
                children.add(new ArrayList<>());
            }
        }

        String write() {
            int root = random.nextInt(size);
            walk(root, -1, 1);
            int digit = 1;
            for (int[] ring : rings) {
                String link = link(ring[0], ring[1]);
                int where = link.equals("") ? 0 : random.nextInt(3);
                closures.get(ring[0]).add((where != 1 ? link : "") + digit);
                closures.get(ring[1]).add((where != 2 ? link : "") + digit);
                digit++;
            }
            return digit > 10 ? "too many rings".repeat(9) : text(root);
        }

        private int walk(int a, int from, int number) {
            seen[a] = number;
            int next = number + 1;
            List<Integer> order = new ArrayList<>();
            for (int b = 0; b < size; b++) {
                order.add(b);
            }
            Collections.shuffle(order, random);
            for (int b : order) {
                if (b == from || registry.bond(id, a, b) == 0) {
                    continue;
                }
                if (seen[b] == 0) {
                    children.get(a).add(b);
                    next = walk(b, a, next);
                } else if (seen[b] < seen[a]) {
                    rings.add(new int[] {b, a});
                }
            }
            return next;
        }

        private String text(int a) {
            StringBuilder text = new StringBuilder(atom(a));
            Collections.shuffle(closures.get(a), random);
            closures.get(a).forEach(text::append);
            List<Integer> parts = children.get(a);
            for (int n = 0; n < parts.size(); n++) {
                String part = link(a, parts.get(n)) + text(parts.get(n));
                boolean last = n == parts.size() - 1 && random.nextInt(5) > 0;
                text.append(last ? part : "(" + part + ")");
            }
            return text.toString();
        }

        private String atom(int a) {
            int code = registry.atom(id, a);
            char letter = (char) (code & 127);
            if ((code & 128) != 0) {
                return String.valueOf(Character.toLowerCase(letter));
            }
            int charge = code >> 12;
            if (charge == 1 && random.nextInt(4) > 0) {
                return String.valueOf(letter);
            }
            int h = code >> 8 & 7;
            return "[" + letter + (h == 0 ? "" : h == 1 ? "H" : "H" + h) + (charge == 0 ? "-" : charge == 2 ? "+" : "") + "]";
        }

        private String link(int a, int b) {
            int bond = registry.bond(id, a, b);
            boolean aromatic = (registry.atom(id, a) & registry.atom(id, b) & 128) != 0;
            if (bond == 1) {
                return aromatic || random.nextInt(6) == 0 ? "-" : "";
            }
            return bond == 2 ? "=" : bond == 3 ? "#" : "";
        }
    }
}
