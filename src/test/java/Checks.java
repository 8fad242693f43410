/** What the tests share: a registry that is spoken to in texts, and a count of the wrong answers. */
final class Checks {
    static final String ARGUMENT = "throws.IllegalArgumentException";
    static final String STATE = "throws.IllegalStateException";
    static final String UNSUPPORTED = "throws.UnsupportedOperationException";
    static final String ARITHMETIC = "throws.ArithmeticException";
    static final String INDEX = "throws.IndexOutOfBoundsException";

    /** Twelve molecules, as many as the registry may have; "NS" is none of them. */
    static final String[] TWELVE = {"C", "N", "O", "S", "F", "CC", "CN", "CO", "CS", "CF", "NN", "NO"};

    final Counted registry = new Counted();
    private static int wrong = 0;
    private static int made = 0;
    private static int sentences = 0;
    private static int madeBefore = 0;
    private static String sentence = "";

    /** A face call that answers a number or throws. */
    interface Call {
        long answer();
    }

    /** A sentence of the document that the checks from here on would see broken. */
    static void sentence(String words) {
        noEmptySentence();
        sentences++;
        sentence = words;
        madeBefore = made;
    }

    private static void noEmptySentence() {
        if (sentences > 0 && made == madeBefore) {
            due("checks of this sentence", "none", "some");
        }
    }

    static void due(String what, Object got, Object want) {
        made++;
        if (!String.valueOf(got).equals(String.valueOf(want))) {
            wrong++;
            String place = sentence.isEmpty() ? "" : "\"" + sentence + "\": ";
            System.out.println(place + what + " answered " + got + ", due is " + want);
        }
    }

    /** Ends the test's program as the form of a test asks. */
    static void end() {
        noEmptySentence();
        String of = sentences == 0 ? "" : sentences + " sentences, ";
        System.out.println(of + made + " answers, " + wrong + " of them not as due");
        if (wrong != 0 || made == 0) {
            System.exit(1);
        }
    }

    /** The answer of a call, or the name of what it throws. */
    static String said(Call call) {
        try {
            return String.valueOf(call.answer());
        } catch (RuntimeException e) {
            return "throws." + e.getClass().getSimpleName();
        }
    }

    /** The text's characters eight by eight, as type takes them. */
    static long packed(String text, int from) {
        long eight = 0;
        for (int i = from; i < Math.min(text.length(), from + 8); i++) {
            eight = eight << 8 | text.charAt(i);
        }
        return eight;
    }

    Checks typed(String text) {
        for (int from = 0; from < text.length(); from += 8) {
            due("type of " + text, registry.type(packed(text, from)), true);
        }
        return this;
    }

    /** Wipes, types the text and registers it. */
    String register(String text) {
        registry.wipe();
        typed(text);
        return said(registry::register);
    }

    String lookup(String text) {
        registry.wipe();
        typed(text);
        return said(registry::lookup);
    }

    String search(String text) {
        registry.wipe();
        typed(text);
        return said(registry::search);
    }

    String remove(int id) {
        return said(() -> registry.remove(id));
    }

    /** A new registry with these molecules, which have the IDs 1, 2, .. */
    static Checks with(String... texts) {
        Checks c = new Checks();
        for (int i = 0; i < texts.length; i++) {
            due("register of " + texts[i], c.register(texts[i]), i + 1);
        }
        return c;
    }

    /** A new registry with these molecules that is DOWN, as a change failed at its n-th write. */
    static Checks downAt(int n, String... texts) {
        Checks c = with(texts);
        due("fail " + n, c.registry.fail(n), true);
        due("register of FF with a failure at write " + n, c.register("FF"), -2);
        return c;
    }

    /** How many characters still go into the buffer; it is full then. */
    int room() {
        int free = 0;
        while (free <= 40 && registry.type('C')) {
            free++;
        }
        return free;
    }

    /** All that found answers until its first 0. */
    String foundAll() {
        StringBuilder all = new StringBuilder();
        for (int k = 0; k <= 12; k++) {
            int id = registry.found(k);
            if (id == 0) {
                break;
            }
            all.append(k == 0 ? "" : " ").append(id);
        }
        return all.toString();
    }

    /** How many there are, and each atom and bond of the molecules with an ID up to this one. */
    String shown(int lastId) {
        StringBuilder all = new StringBuilder("count " + registry.count());
        for (int id = 0; id <= lastId; id++) {
            int size = registry.atoms(id);
            all.append(" / ").append(id).append(':').append(size);
            for (int i = 0; i < size; i++) {
                all.append(' ').append(registry.atom(id, i));
                for (int j = 0; j < i; j++) {
                    all.append(' ').append(registry.bond(id, i, j));
                }
            }
        }
        return all.toString();
    }

    /** These texts are molecules: each registers as the first, and is there only then. */
    static void areMolecules(String... texts) {
        for (String text : texts) {
            Checks c = new Checks();
            due("lookup of " + text, c.lookup(text), 0);
            due("register of " + text, c.register(text), 1);
            due("lookup of " + text + " behind it", c.lookup(text), 1);
            due("count behind " + text, c.registry.count(), 1);
        }
    }

    /** These texts are WRONG so: nothing is registered, no ID is used up, the text stays in the buffer. */
    static void areWrong(String exception, String... texts) {
        for (String text : texts) {
            Checks c = new Checks();
            due("register of " + text, c.register(text), exception);
            due("lookup of " + text + " as it stayed", said(c.registry::lookup), exception);
            due("count behind " + text, c.registry.count(), 0);
            due("room behind " + text, c.room(), 40 - text.length());
            due("register of C behind " + text, c.register("C"), 1);
        }
    }

    static void arePatterns(String... texts) {
        for (String text : texts) {
            due("search of " + text, new Checks().search(text), 0);
        }
    }

    /** These patterns are WRONG so: the latest search and the text in the buffer stay. */
    static void areWrongPatterns(String exception, String... texts) {
        for (String text : texts) {
            Checks c = with("C");
            due("search of *", c.search("*"), 1);
            due("search of " + text, c.search(text), exception);
            due("found behind " + text, c.registry.found(0), 1);
            due("room behind " + text, c.room(), 40 - text.length());
        }
    }

    /** The pattern is in the molecules with just these IDs. */
    void finds(String pattern, String ids) {
        int many = ids.isEmpty() ? 0 : ids.split(" ").length;
        due("search of " + pattern, search(pattern), many);
        due("found of " + pattern, foundAll(), ids);
    }
}
