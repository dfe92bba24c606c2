import java.io.IOException;
import java.lang.reflect.InvocationTargetException;
import java.lang.reflect.Method;
import java.lang.reflect.Modifier;
import java.nio.file.Files;
import java.nio.file.Path;
import java.util.ArrayList;
import java.util.Arrays;
import java.util.List;
import java.util.Set;
import java.util.TreeSet;
import java.util.regex.Matcher;
import java.util.regex.Pattern;
import java.util.stream.Collectors;
import java.util.stream.Stream;

/** What README.md shows: its calls answer as it says, its table is the face, and its list has every test. */
public final class ReadmeTest {
    private static final String FENCE = "```";
    private static final String NEW_OBJECT = "ConsistBus bus = new ConsistBus();";
    private static final Pattern CALL = Pattern.compile(
            "bus\\.(\\w+)\\(([-\\d, ]*)\\); +// (\\d+|NONE|nothing|throws \\w+)(?:: .+)?");
    private static final Pattern TABLE_ROW = Pattern.compile("\\| `(\\w+)\\(([^)]*)\\)` \\|.*\\|([^|]*)\\|");
    private static final Pattern LISTED_TEST = Pattern.compile("`(\\w+Test)`(?= and `\\w+Test`:|:)");

    private final Checks checks = new Checks();
    private final List<String> lines;
    private final Set<String> shown = new TreeSet<>();

    private ReadmeTest(List<String> lines) {
        this.lines = lines;
    }

    public static void main(String[] args) throws IOException {
        ReadmeTest test = new ReadmeTest(Files.readAllLines(Path.of("README.md")));
        test.examples();
        test.everyCallIsShown();
        test.runsOfTests();
        test.table();
        test.listOfTests();
        test.checks.end();
    }

    /** The blocks of one kind, without their fences. */
    private List<List<String>> blocks(String kind) {
        List<List<String>> found = new ArrayList<>();
        String open = "";
        for (String line : lines) {
            if (line.startsWith(FENCE)) {
                open = open.isEmpty() ? line : "";
                if (open.equals(FENCE + kind)) {
                    found.add(new ArrayList<>());
                }
            } else if (open.equals(FENCE + kind)) {
                found.get(found.size() - 1).add(line);
            }
        }
        return found;
    }

    private void examples() {
        for (List<String> block : blocks("java")) {
            checks.at("README.md, example");
            checks.due("first line", block.get(0), NEW_OBJECT);
            ConsistBus bus = new ConsistBus();
            block.subList(1, block.size()).forEach(line -> playLine(bus, line));
        }
    }

    private void playLine(ConsistBus bus, String line) {
        Matcher call = CALL.matcher(line);
        checks.due(line + " is a call with its answer", call.matches(), true);
        if (call.matches()) {
            shown.add(call.group(1));
            checks.due(line, answer(bus, call.group(1), call.group(2)), call.group(3));
        }
    }

    /** Asked by the call's name and number of arguments, since a line that does not compile must not pass. */
    private static String answer(ConsistBus bus, String name, String written) {
        Object[] arguments = parts(written).map(Integer::valueOf).toArray();
        Class<?>[] types = new Class<?>[arguments.length];
        Arrays.fill(types, int.class);
        try {
            Object got = ConsistBus.class.getMethod(name, types).invoke(bus, arguments);
            return got == null ? "nothing" : got.equals(ConsistBus.NONE) ? "NONE" : got.toString();
        } catch (InvocationTargetException e) {
            return "throws " + e.getCause().getClass().getSimpleName();
        } catch (ReflectiveOperationException e) {
            return "no such call";
        }
    }

    private static Stream<String> parts(String list) {
        return Arrays.stream(list.split(",")).map(String::strip).filter(part -> !part.isEmpty());
    }

    private void everyCallIsShown() {
        checks.at("README.md, examples");
        checks.due("calls shown", shown, face().map(Method::getName).collect(Collectors.toCollection(TreeSet::new)));
    }

    private void runsOfTests() {
        List<List<String>> blocks = blocks("text");
        checks.at("README.md, how a run is written");
        checks.due("runs are shown", blocks.isEmpty(), false);
        for (List<String> block : blocks) {
            Run run = new Run(checks);
            block.forEach(run::calls);
        }
    }

    private void table() {
        checks.at("README.md, table of calls");
        Set<String> rows = new TreeSet<>();
        for (String line : lines) {
            Matcher row = TABLE_ROW.matcher(line);
            if (row.matches()) {
                rows.add(row.group(1) + " of " + parts(row.group(2)).count() + " throws "
                        + parts(row.group(3)).collect(Collectors.toCollection(TreeSet::new)));
            }
        }
        checks.due("rows", rows, face().map(ReadmeTest::row).collect(Collectors.toCollection(TreeSet::new)));
    }

    private static Stream<Method> face() {
        return Arrays.stream(ConsistBus.class.getDeclaredMethods()).filter(m -> Modifier.isPublic(m.getModifiers()));
    }

    private static String row(Method method) {
        return method.getName() + " of " + method.getParameterCount() + " throws "
                + Arrays.stream(method.getExceptionTypes()).map(Class::getSimpleName)
                        .collect(Collectors.toCollection(TreeSet::new));
    }

    private void listOfTests() throws IOException {
        checks.at("README.md, list of tests");
        Set<String> listed = new TreeSet<>();
        lines.stream().filter(line -> line.startsWith("- `")).forEach(line ->
                LISTED_TEST.matcher(line).results().forEach(found -> listed.add(found.group(1))));
        try (Stream<Path> files = Files.list(Path.of("src/test/java"))) {
            checks.due("tests", listed, files.map(file -> file.getFileName().toString())
                    .filter(name -> name.endsWith("Test.java")).map(name -> name.replace(".java", ""))
                    .collect(Collectors.toCollection(TreeSet::new)));
        }
        checks.due(".ci/run is shown", blocks("sh").contains(List.of(".ci/run")), true);
    }
}
