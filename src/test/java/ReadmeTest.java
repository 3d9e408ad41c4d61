import java.io.IOException;
import java.nio.file.Files;
import java.nio.file.Path;
import java.util.ArrayList;
import java.util.List;
import java.util.TreeSet;
import java.util.stream.Collectors;
import java.util.stream.Stream;

/** README.md: its example is run here, line by line as it stands there, and its tables name the tests. */
public final class ReadmeTest extends Checks {
    private static final Path README = Path.of("README.md");
    private static final Path TESTS = Path.of("src/test/java");

    public static void main(String[] args) throws IOException {
        PeriodKernel kernel = example();
        due("kernel.actuator(0, 0)", kernel.actuator(0, 0), 8);
        due("the time", kernel.about(0), 2);
        dueEvent("what is published", kernel, 0, 2, 1, 8, 0);
        due("it is the README's example", exampleHere().equals(exampleThere()), true);
        dueSame("tests", firstCells("| test |"), files(name -> name.endsWith("Test")));
        dueSame("files with sentences", firstCells("| file |"), files(ReadmeTest::readsTheBook));
        dueSame("files beside them", firstCells("| beside them |"),
                files(name -> !name.endsWith("Test") && !readsTheBook(name)));
        end();
    }

    private static PeriodKernel example() {
        // the example begins
        PeriodKernel kernel = new PeriodKernel();
        kernel.port(0, 0, 100, 0);          // what is measured
        kernel.port(1, 0, 100, 0);          // what is done about it
        kernel.task(0, 10);                 // at most 10 steps a job
        kernel.code(0, 2);                  // GET slot 0
        kernel.code(0, 1 | 1 << 6);         // PUSH 1
        kernel.code(0, 4);                  // ADD
        kernel.code(0, 3 | 1 << 6);         // SET slot 1
        kernel.code(0, 0);                  // END
        kernel.wire(0, 0, 0, 0);            // slot 0 is IN at port 0
        kernel.wire(0, 1, 1, 1);            // slot 1 is OUT at port 1
        kernel.mode(0, 4);                  // mode 0 has a period of 4
        kernel.use(0, 0, 2);                // and releases task 0 twice in it
        kernel.sense(0, 0);
        kernel.actuate(0, 1);

        kernel.sensor(0, 7);
        if (kernel.start() == 0) {          // else 100 * the fault and the task or mode
            kernel.step(2000);              // runs the jobs, the most urgent first
            kernel.advance();               // time 1
            kernel.advance();               // time 2: the job is published, kernel.actuator(0, 0) is 8
        }
        // the example ends
        return kernel;
    }

    private static List<String> exampleHere() throws IOException {
        return between(TESTS.resolve("ReadmeTest.java"), "// the example begins", "// the example ends");
    }

    private static List<String> exampleThere() throws IOException {
        return between(README, "```java", "```");
    }

    /** The lines behind the first one that is the beginning, up to the first that is the end. */
    private static List<String> between(Path file, String beginning, String end) throws IOException {
        List<String> lines = Files.readAllLines(file).stream().map(String::strip).collect(Collectors.toList());
        int from = lines.indexOf(beginning) + 1;
        int length = lines.subList(from, lines.size()).indexOf(end);
        return lines.subList(from, from + length);
    }

    /** What stands in the first column of a table, below its heading and the line under that. */
    private static TreeSet<String> firstCells(String heading) throws IOException {
        TreeSet<String> cells = new TreeSet<>();
        boolean inTable = false;
        for (String line : Files.readAllLines(README)) {
            inTable = line.startsWith(heading) || inTable && line.startsWith("|");
            if (inTable && !line.startsWith(heading) && !line.startsWith("| ---")) {
                cells.add(line.split("\\|")[1].strip());
            }
        }
        return cells;
    }

    private interface Kind {
        boolean has(String name) throws IOException;
    }

    private static TreeSet<String> files(Kind kind) throws IOException {
        List<Path> all = new ArrayList<>();
        try (Stream<Path> found = Files.list(TESTS)) {
            found.forEach(all::add);
        }
        TreeSet<String> names = new TreeSet<>();
        for (Path file : all) {
            String name = file.getFileName().toString().replace(".java", "");
            if (kind.has(name)) {
                names.add(name);
            }
        }
        return names;
    }

    private static boolean readsTheBook(String name) throws IOException {
        return Files.readString(TESTS.resolve(name + ".java")).contains("static void read(Book book)")
                && !name.endsWith("Test");
    }

    private static void dueSame(String what, TreeSet<String> told, TreeSet<String> there) {
        if (!told.equals(there)) {
            isWrong("README.md tells of the " + what + " " + told + ", but there are " + there);
        }
    }
}
