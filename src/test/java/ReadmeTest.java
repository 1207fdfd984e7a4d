import java.io.IOException;
import java.nio.file.Files;
import java.nio.file.Path;
import java.util.ArrayList;
import java.util.List;
import java.util.stream.Collectors;
import java.util.stream.Stream;

/** README.md: its example is the one that is done here, with the answers that it tells, and it names every test. */
public final class ReadmeTest {
    private static final Path README = Path.of("README.md");
    private static final Path TESTS = Path.of("src/test/java");

    private static void example() {
        // the example
        MarkedRuns m = new MarkedRuns();
        int one = m.make(0, 1, 1, 0);          // PUT: variable 1 is 1
        int less = m.make(2, 0, 0, 1);         // LESS: variable 0 is variable 0 - variable 1
        int loop = m.make(14, 0, less, 0);     // LOOP: as long as variable 0 is not 0
        int all = m.make(12, one, loop, 0);    // BOTH
        m.body(0, all);                        // the BODY of method 0
        int answer = m.run(0, 5, 160);         // 0: with 5 in variable 0 it came to its END
        int price = m.told(4);                 // 7: an ENTRY of 2, and 5 times BACK
        int stopped = m.run(0, 5, 6);          // 3: a budget of 6 does not do for the fifth BACK
        int back = m.marks(0);                 // 4: so many times BACK were paid
        int alike = m.same(0, 5, 7, 160);      // 1: a budget of 7 does as well as one of 160
        m.body(1, m.make(6, 2, 0, 0));         // MAKE: row 2 has as many items as variable 0 says
        m.run(1, 3, 160);
        int size = m.size(2);                  // 3
        int item = m.item(2, 1);               // 0: the items of a new row are 0
        // the end of the example
        Due.is("answer", answer, 0);
        Due.is("price", price, 7);
        Due.is("stopped", stopped, 3);
        Due.is("back", back, 4);
        Due.is("alike", alike, 1);
        Due.is("size", size, 3);
        Due.is("item", item, 0);
    }

    /** The lines between the first that is the one mark and the next that is the other. */
    private static List<String> between(Path file, String from, String to) throws IOException {
        List<String> found = new ArrayList<>();
        boolean inside = false;
        for (String line : Files.readAllLines(file)) {
            if (inside && line.strip().equals(to)) {
                return found;
            }
            if (inside) {
                found.add(line.strip());
            }
            inside = inside || line.strip().equals(from);
        }
        return List.of();
    }

    private static void exampleIsTheReadmes() throws IOException {
        List<String> shown = between(README, "```java", "```");
        List<String> done = between(TESTS.resolve("ReadmeTest.java"), "// the example", "// the end of the example");
        Due.is("README.md shows an example", shown.isEmpty() ? 0 : 1, 1);
        Due.is("README.md's example is the one that is done", shown.equals(done) ? 1 : 0, 1);
    }

    private static void everyTestIsNamed() throws IOException {
        String readme = Files.readString(README);
        List<Path> files;
        try (Stream<Path> all = Files.list(TESTS)) {
            files = all.collect(Collectors.toList());
        }
        for (Path file : files) {
            String name = file.getFileName().toString().replace(".java", "");
            if (name.endsWith("Test")) {
                Due.is("README.md names " + name, readme.contains("`" + name + "`") ? 1 : 0, 1);
            }
        }
        Due.is("README.md says how the tests are run", readme.contains("    .ci/run\n") ? 1 : 0, 1);
        Due.is(".ci/run can be run", Files.isExecutable(Path.of(".ci/run")) ? 1 : 0, 1);
    }

    public static void main(String[] args) throws IOException {
        example();
        exampleIsTheReadmes();
        everyTestIsNamed();
        Due.end();
    }
}
