import java.io.IOException;
import java.lang.reflect.Method;
import java.lang.reflect.Modifier;
import java.nio.file.Files;
import java.nio.file.Path;
import java.util.List;
import java.util.stream.Collectors;
import java.util.stream.Stream;

/** That README.md tells the truth: its example, and that no call of the face and no test is left out. */
final class ReadmeTest {
    private static final Path README = Path.of("README.md");
    private static final MoleculeRegistry registry = new MoleculeRegistry();
    private static List<String> lines;
    private static int reached = 0;

    public static void main(String[] args) throws IOException {
        lines = Files.readAllLines(README);
        example();
        namesEveryCall();
        namesEveryTest();
        Checks.end();
    }

    private static void example() {
        told("registry.type(0x43434FL);", "CCO", registry.type(0x43434FL) ? "CCO" : "refused");
        int id = registry.register();
        told("int id = registry.register();", "1", id);
        told("registry.type(0x4F4343L);", "OCC", registry.type(0x4F4343L) ? "OCC" : "refused");
        told("registry.register();", "1", registry.register());
        told("registry.atoms(id);", "3", registry.atoms(id));
        told("registry.atom(id, 0);", "4931", registry.atom(id, 0));
        told("registry.bond(id, 0, 1);", "1", registry.bond(id, 0, 1));
        told("registry.type(0x2A7E4FL);", "*~O", registry.type(0x2A7E4FL) ? "*~O" : "refused");
        told("registry.search();", "1", registry.search());
        told("registry.found(0);", "1", registry.found(0));
        told("registry.fail(3);", "the next change fails", registry.fail(3) ? "the next change fails" : "refused");
        told("registry.remove(id);", "-2", registry.remove(id));
        told("registry.recover();", "1", registry.recover());
        told("registry.count();", "0", registry.count());
    }

    /** The call stands in README.md behind the one before it, and what is said beside it begins so. */
    private static void told(String call, String said, Object answer) {
        int at = reached;
        while (at < lines.size() && !lines.get(at).startsWith(call)) {
            at++;
        }
        Checks.due(call + " stands in the example", at < lines.size(), true);
        if (at < lines.size()) {
            String beside = lines.get(at).substring(call.length()).trim();
            Checks.due("what is said beside " + call + ", " + beside, beside.matches("// \\Q" + said + "\\E\\b.*|// \\Q" + said + "\\E"), true);
            reached = at + 1;
        }
        Checks.due(call, answer, said);
    }

    private static void namesEveryCall() {
        for (Method method : MoleculeRegistry.class.getDeclaredMethods()) {
            if (Modifier.isPublic(method.getModifiers())) {
                boolean named = lines.stream().anyMatch(line -> line.startsWith("| ") && line.contains("`" + method.getName() + "("));
                Checks.due(method.getName() + " stands in README.md", named, true);
            }
        }
    }

    private static void namesEveryTest() throws IOException {
        try (Stream<Path> files = Files.list(Path.of("src/test/java"))) {
            for (Path file : files.collect(Collectors.toList())) {
                String name = file.getFileName().toString().replace(".java", "");
                boolean named = lines.stream().anyMatch(line -> line.contains("`" + name + "`"));
                Checks.due(name + " stands in README.md", named, true);
            }
        }
    }
}
