import java.util.ArrayList;
import java.util.List;
import java.util.Random;

/** All promises: long runs of calls, chosen by chance from a fixed seed, on the class and on the model. */
final class ModelTest {
    private static final int RUNS = 1500;
    // What one step calls at most: wipe, type five times, and a call that reads the buffer.
    private static final int CALLS_OF_A_STEP = 7;

    private final Random random;
    private final MoleculeRegistry registry = new MoleculeRegistry();
    private final Model model = new Model();
    private final List<String> calls = new ArrayList<>();
    private static final int[] SEEN = new int[6];

    private ModelTest(long seed) {
        random = new Random(seed);
    }

    public static void main(String[] args) {
        int runs = args.length > 0 ? Integer.parseInt(args[0]) : RUNS;
        long first = args.length > 1 ? Long.parseLong(args[1]) : 1;
        for (int run = 0; run < runs; run++) {
            if (!new ModelTest(first + run).run()) {
                break;
            }
        }
        String[] kinds = {"answers", Checks.STATE, Checks.ARGUMENT, Checks.UNSUPPORTED, Checks.ARITHMETIC, Checks.INDEX};
        for (int k = 0; k < kinds.length; k++) {
            Checks.due("the runs met " + kinds[k], SEEN[k] > 0, true);
        }
        Checks.end();
    }

    private boolean run() {
        while (calls.size() + CALLS_OF_A_STEP <= Counted.MOST_CALLS) {
            if (!step()) {
                int from = Math.max(0, calls.size() - 40);
                System.out.println("after " + calls.subList(from, calls.size()));
                return false;
            }
        }
        return true;
    }

    private boolean agree(String call, String got, String want) {
        calls.add(call + "=" + want);
        Checks.due(call, got, want);
        return got.equals(want);
    }

    private boolean step() {
        int choice = random.nextInt(100);
        if (choice < 62) {
            return typeText(choice) && readBuffer(choice);
        }
        int id = random.nextInt(16);
        int i = random.nextInt(12) - 1;
        int j = random.nextInt(12) - 1;
        if (choice < 66) {
            int n = random.nextInt(7) - 1;
            return agree("fail " + n, "" + registry.fail(n), "" + model.fail(n));
        }
        if (choice < 73) {
            return agree("recover", "" + registry.recover(), "" + model.recover());
        }
        if (choice < 79) {
            return agree("remove " + id, Checks.said(() -> registry.remove(id)), Checks.said(() -> model.remove(id)));
        }
        if (choice < 83) {
            return agree("count", "" + registry.count(), "" + model.count());
        }
        if (choice < 86) {
            return agree("found " + i, "" + registry.found(i), "" + model.found(i));
        }
        if (choice < 89) {
            return agree("atoms " + id, "" + registry.atoms(id), "" + model.atoms(id));
        }
        if (choice < 93) {
            return agree("atom " + id + " " + i, "" + registry.atom(id, i), "" + model.atom(id, i));
        }
        if (choice < 97) {
            return agree("bond " + id + " " + i + " " + j, "" + registry.bond(id, i, j), "" + model.bond(id, i, j));
        }
        long any = random.nextLong();
        return agree("type " + any, "" + registry.type(any), "" + model.type(any));
    }

    private boolean typeText(int choice) {
        if (random.nextInt(8) > 0) {
            registry.wipe();
            model.wipe();
            calls.add("wipe");
        }
        String text = new Chance(random, choice >= 40).text();
        for (int from = 0; from < text.length(); from += 8) {
            long eight = Checks.packed(text, from);
            String part = text.substring(from, Math.min(text.length(), from + 8));
            if (!agree("type " + part, "" + registry.type(eight), "" + model.type(eight))) {
                return false;
            }
        }
        return true;
    }

    private boolean readBuffer(int choice) {
        String want;
        boolean fine;
        if (choice < 30) {
            want = Checks.said(model::register);
            fine = agree("register", Checks.said(registry::register), want);
        } else if (choice < 40) {
            want = Checks.said(model::lookup);
            fine = agree("lookup", Checks.said(registry::lookup), want);
        } else {
            want = Checks.said(model::search);
            fine = agree("search", Checks.said(registry::search), want);
        }
        String[] kinds = {Checks.STATE, Checks.ARGUMENT, Checks.UNSUPPORTED, Checks.ARITHMETIC, Checks.INDEX};
        int seen = 0;
        for (int k = 0; k < kinds.length; k++) {
            seen = want.equals(kinds[k]) ? k + 1 : seen;
        }
        SEEN[seen]++;
        return fine;
    }

    /** Texts by chance: most of them of the form, some with a character spoilt. */
    private static final class Chance {
        private final Random random;
        private final boolean pattern;
        private final int aromatic;
        private int left;
        private final StringBuilder out = new StringBuilder();

        Chance(Random random, boolean pattern) {
            this.random = random;
            this.pattern = pattern;
            aromatic = random.nextInt(3) * 45;
            left = random.nextInt(6) == 0 ? 1 + random.nextInt(13) : 1 + random.nextInt(6);
        }

        String text() {
            molecule(0);
            mendDigits();
            if (random.nextInt(9) == 0) {
                spoil();
            }
            return out.length() > 40 ? out.substring(0, 40) : out.toString();
        }

        private void molecule(int depth) {
            left--;
            atom();
            int closures = random.nextInt(6) == 0 ? 1 + random.nextInt(2) : 0;
            for (int n = 0; n < closures; n++) {
                link(8);
                out.append((char) ('1' + random.nextInt(3)));
            }
            while (left > 0 && random.nextInt(4) == 0) {
                out.append('(');
                link(4);
                molecule(depth + 1);
                out.append(')');
            }
            if (left > 0 && (depth == 0 || random.nextInt(3) > 0)) {
                link(4);
                molecule(depth);
            }
        }

        private void atom() {
            int r = random.nextInt(100);
            if (pattern && r < 15) {
                out.append('*');
            } else if (pattern && r < 25) {
                out.append('[').append(element());
                for (int n = random.nextInt(20) == 0 ? 5 : 1 + random.nextInt(3); n > 0; n--) {
                    out.append(',').append(element());
                }
                out.append(']');
            } else if (r > 93) {
                int h = random.nextInt(5);
                out.append('[').append(element()).append(h == 0 ? "" : h == 1 ? "H" : "H" + h);
                out.append(new String[] {"", "+", "-"}[random.nextInt(3)]).append(']');
            } else if (random.nextInt(100) < aromatic) {
                out.append("cccccnnos".charAt(random.nextInt(9)));
            } else {
                out.append(element());
            }
        }

        private char element() {
            return "CCCCCNNOSF".charAt(random.nextInt(10));
        }

        private void link(int seldom) {
            if (random.nextInt(seldom) == 0) {
                out.append(pattern ? "-=#~~~".charAt(random.nextInt(6)) : "--===#".charAt(random.nextInt(6)));
            }
        }

        /** A digit that would stay open is mostly closed at the end, on an atom of its own. */
        private void mendDigits() {
            for (char digit = '1'; digit <= '9' && random.nextInt(12) > 0; digit++) {
                int times = 0;
                for (int i = 0; i < out.length(); i++) {
                    boolean closure = out.charAt(i) == digit && (i == 0 || out.charAt(i - 1) != 'H');
                    times += closure ? 1 : 0;
                }
                if (times % 2 == 1) {
                    out.append(aromatic > 0 && random.nextBoolean() ? 'c' : 'C').append(digit);
                }
            }
        }

        private void spoil() {
            String odd = "()[]-=#~*,H+0123CcNnoOsSfF.:";
            int at = random.nextInt(out.length());
            int how = random.nextInt(3);
            char c = odd.charAt(random.nextInt(odd.length()));
            if (how == 0) {
                out.setCharAt(at, c);
            } else if (how == 1) {
                out.insert(at, c);
            } else {
                out.deleteCharAt(at);
            }
        }
    }
}
