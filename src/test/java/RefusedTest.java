import java.util.ArrayList;
import java.util.List;

/**
 * A call that throws or is refused changes nothing: of two registries that were led to the same state one gets
 * the call, and whatever is asked of both then, they answer alike.
 */
final class RefusedTest {
    /** Leads a new registry to a state, or asks it all that it answers in some direction. */
    private interface Way {
        String go(Checks c);
    }

    private static final String LARGE = "CCCCCCCCCCC";
    private static final List<Way> STATES = new ArrayList<>();
    private static final List<Way> CALLS = new ArrayList<>();
    private static final List<Way> QUESTIONS = new ArrayList<>();

    public static void main(String[] args) {
        Checks.sentence("A call that throws or is refused changes nothing.");
        states();
        calls();
        questions();
        int refused = 0;
        for (int state = 0; state < STATES.size(); state++) {
            for (int call = 0; call < CALLS.size(); call++) {
                refused += compare(state, call) ? 1 : 0;
            }
        }
        Checks.due("enough calls were refused: " + refused, refused > 400, true);
        Checks.end();
    }

    private static boolean compare(int state, int call) {
        String answer = "";
        for (int question = 0; question < QUESTIONS.size(); question++) {
            Checks touched = new Checks();
            Checks untouched = new Checks();
            STATES.get(state).go(touched);
            STATES.get(state).go(untouched);
            answer = CALLS.get(call).go(touched);
            if (answer.equals("done")) {
                return false;
            }
            String got = QUESTIONS.get(question).go(touched);
            String want = QUESTIONS.get(question).go(untouched);
            Checks.due("question " + question + " in state " + state + " after call " + call + " (" + answer + ")", got, want);
        }
        return true;
    }

    /** Three molecules, what a search found, and a text in the buffer; n is a failure that is told. */
    private static void some(String text, int n) {
        STATES.add(c -> {
            c.register("CC");
            c.register("C=O");
            c.register("N");
            c.search("C");
            c.registry.fail(n);
            c.typed(text);
            return "";
        });
    }

    private static void states() {
        for (String text : new String[] {"", "CO", "C(", "C1C1", "c=c", LARGE, "F=F", "c", "C~C", "*", "CCCCCCCC".repeat(5)}) {
            some(text, 0);
        }
        for (int n = 1; n <= 4; n++) {
            some("", n);
            some("C(C", n);
            some("[CH4]C", n);
        }
        for (String text : new String[] {"NS", "C(", "C"}) {
            STATES.add(c -> {
                for (String molecule : Checks.TWELVE) {
                    c.register(molecule);
                }
                c.search("O");
                c.registry.fail(3);
                c.typed(text);
                return "";
            });
        }
        for (int n = 1; n <= 4; n++) {
            int at = n;
            for (String text : new String[] {"", "CO", "C(", LARGE, "C=C"}) {
                STATES.add(c -> {
                    c.register("CC");
                    c.register("N");
                    c.registry.fail(at);
                    c.register("C=C");
                    c.typed(text);
                    return "";
                });
                STATES.add(c -> {
                    c.register("CC");
                    c.register("N");
                    c.search("*");
                    c.registry.fail(at);
                    c.remove(1);
                    c.typed(text);
                    return "";
                });
            }
        }
    }

    private static String refusedIf(boolean refused, String answer) {
        return refused ? answer : "done";
    }

    private static void thrown(Way call) {
        CALLS.add(c -> {
            String answer = call.go(c);
            return refusedIf(answer.startsWith("throws."), answer);
        });
    }

    private static void calls() {
        thrown(c -> Checks.said(c.registry::register));
        thrown(c -> Checks.said(c.registry::lookup));
        thrown(c -> Checks.said(c.registry::search));
        for (int id : new int[] {-1, 0, 1, 2, 3, 4, 13, Integer.MAX_VALUE}) {
            CALLS.add(c -> {
                String answer = c.remove(id);
                return refusedIf(answer.startsWith("throws.") || answer.equals("0"), "remove " + answer);
            });
        }
        for (int n : new int[] {-1, 0, 1, 2, 3, 4, 5, Integer.MIN_VALUE, Integer.MAX_VALUE}) {
            CALLS.add(c -> refusedIf(!c.registry.fail(n), "fail " + n));
        }
        for (long eight : new long[] {32, 127, -1, 0x4343434343434320L, 0x2043434343434343L, 0x43, 0x4343434343434343L}) {
            CALLS.add(c -> refusedIf(!c.registry.type(eight), "type " + eight));
        }
        CALLS.add(c -> refusedIf(c.registry.recover() == -1, "recover"));
        // Calls that only ask.
        CALLS.add(c -> "asked " + c.registry.count() + c.registry.found(0) + c.registry.found(-1) + c.registry.atoms(1));
        CALLS.add(c -> "asked " + c.registry.atom(1, 0) + c.registry.bond(1, 0, 1) + c.registry.atom(9, 9) + c.registry.bond(9, 9, 9));
    }

    private static void questions() {
        // What is there, and what was found.
        QUESTIONS.add(c -> c.shown(14) + " found " + c.foundAll());
        // What stands in the buffer, read as it is and with more behind it, and how long it is.
        for (String more : new String[] {"", "C)", "1", "c", "=C"}) {
            QUESTIONS.add(c -> typedOrNot(c, more) + Checks.said(c.registry::register) + c.shown(14));
            QUESTIONS.add(c -> typedOrNot(c, more) + Checks.said(c.registry::lookup) + Checks.said(c.registry::lookup));
            QUESTIONS.add(c -> typedOrNot(c, more) + Checks.said(c.registry::search) + c.foundAll());
            QUESTIONS.add(c -> c.registry.recover() + typedOrNot(c, more) + Checks.said(c.registry::register) + c.shown(14));
        }
        QUESTIONS.add(c -> String.valueOf(c.room()));
        // The failure that is told, the log, and the IDs used up.
        QUESTIONS.add(c -> c.register("SS") + c.registry.recover() + c.shown(15) + c.register("SN") + c.register("SF"));
        QUESTIONS.add(c -> c.remove(2) + c.registry.recover() + c.shown(15) + c.register("SN") + c.remove(3));
        QUESTIONS.add(c -> c.registry.recover() + c.shown(15) + c.foundAll() + c.register("SN") + c.registry.recover() + c.shown(15));
    }

    private static String typedOrNot(Checks c, String more) {
        return String.valueOf(c.registry.type(Checks.packed(more, 0)));
    }
}
