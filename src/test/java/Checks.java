/** What the tests share: a registry that is spoken to in texts, and a count of the wrong answers. */
final class Checks {
    final MoleculeRegistry registry = new MoleculeRegistry();
    private static int wrong = 0;
    private static int made = 0;

    /** A face call that answers a number or throws. */
    interface Call {
        long answer();
    }

    static void due(String what, Object got, Object want) {
        made++;
        if (!String.valueOf(got).equals(String.valueOf(want))) {
            wrong++;
            System.out.println(what + " answered " + got + ", due is " + want);
        }
    }

    /** Ends the test's program as the form of a test asks. */
    static void end() {
        System.out.println(made + " answers, " + wrong + " of them not as due");
        if (wrong != 0 || made == 0) {
            System.exit(1);
        }
    }

    /** The answer of a call, or the name of what it throws. */
    static String said(Call call) {
        try {
            return String.valueOf(call.answer());
        } catch (RuntimeException e) {
            return "throws." + e.getClass().getSimpleName();
        }
    }

    /** The text's characters eight by eight, as type takes them. */
    static long packed(String text, int from) {
        long eight = 0;
        for (int i = from; i < Math.min(text.length(), from + 8); i++) {
            eight = eight << 8 | text.charAt(i);
        }
        return eight;
    }

    Checks typed(String text) {
        for (int from = 0; from < text.length(); from += 8) {
            due("type of " + text, registry.type(packed(text, from)), true);
        }
        return this;
    }

    /** Wipes, types the text and registers it. */
    String register(String text) {
        registry.wipe();
        typed(text);
        return said(registry::register);
    }

    String lookup(String text) {
        registry.wipe();
        typed(text);
        return said(registry::lookup);
    }

    String search(String text) {
        registry.wipe();
        typed(text);
        return said(registry::search);
    }

    String remove(int id) {
        return said(() -> registry.remove(id));
    }

    /** What lies in the buffer can only be seen by what it makes: here, by how many characters still go in. */
    int room() {
        int free = 0;
        while (free <= 40 && registry.type('C')) {
            free++;
        }
        return free;
    }

    /** All that found answers until its first 0. */
    String foundAll() {
        StringBuilder all = new StringBuilder();
        for (int k = 0; k <= 12 && registry.found(k) != 0; k++) {
            all.append(k == 0 ? "" : " ").append(registry.found(k));
        }
        return all.toString();
    }

    static final String ARGUMENT = "throws.IllegalArgumentException";
    static final String STATE = "throws.IllegalStateException";
    static final String UNSUPPORTED = "throws.UnsupportedOperationException";
    static final String ARITHMETIC = "throws.ArithmeticException";
    static final String INDEX = "throws.IndexOutOfBoundsException";
}
