import java.io.IOException;
import java.net.URL;
import java.net.URLClassLoader;
import java.nio.file.Files;
import java.nio.file.Path;
import java.util.ArrayList;
import java.util.List;
import java.util.Set;
import java.util.TreeSet;
import java.util.function.Supplier;
import java.util.regex.Matcher;
import java.util.regex.Pattern;
import java.util.stream.Collectors;
import java.util.stream.Stream;
import javax.tools.ToolProvider;

/** What README.md shows: its calls answer as it says, and its tables name all calls, ops and tests. */
public final class ReadmeTest {
    private static final Support CHECK = new Support("ReadmeTest");
    private static final String NEW_OBJECT = "ProtocolMachines x = new ProtocolMachines();";
    private static final Pattern CALL = Pattern.compile(
            "((?:x\\.(\\w+)|feedText)\\(.*\\)); +// (-?\\d+|BAD|NONE|FULL)(?::.*)?");

    private final StringBuilder program = new StringBuilder("import java.util.ArrayList;\nimport java.util.List;\n"
            + "public final class ReadmeCalls implements java.util.function.Supplier<List<Integer>> {\n");
    private final StringBuilder body = new StringBuilder();
    private final List<String> calls = new ArrayList<>();
    private final List<Integer> answers = new ArrayList<>();
    private final Set<String> shown = new TreeSet<>();

    public static void main(String[] args) throws Exception {
        String readme = Files.readString(Path.of("README.md"));
        String document = Files.readString(Path.of("../shared/DOC.md"));
        ReadmeTest test = new ReadmeTest();
        test.readBlocks(readme);
        test.makeCalls();
        List<String> face = test.face(document);
        CHECK.same("calls that are shown", test.shown.toString(), new TreeSet<>(names(face)).toString());
        CHECK.same("the table of calls", String.join("\n", all(readme, "(?m)^\\| `(\\w+\\(.*?\\))` \\|")),
                String.join("\n", face));
        ops(readme, document);
        tests(readme);
        constants(readme);
        CHECK.finish();
    }

    private static List<String> all(String text, String pattern) {
        List<String> found = new ArrayList<>();
        Matcher m = Pattern.compile(pattern).matcher(text);
        while (m.find()) {
            found.add(m.group(1));
        }
        return found;
    }

    private void readBlocks(String readme) {
        List<String> blocks = all(readme, "(?s)```java\n(.*?)```");
        CHECK.is("blocks of Java", blocks.size() > 4);
        for (String block : blocks) {
            if (block.contains("static ")) {
                program.append(block);
            } else {
                body.append("{\n");
                block.lines().filter(line -> !line.isBlank()).forEach(this::readLine);
                body.append("}\n");
            }
        }
        program.append("public List<Integer> get() {\nList<Integer> all = new ArrayList<>();\n").append(body)
                .append("return all;\n}\n}\n");
    }

    private void readLine(String line) {
        Matcher call = CALL.matcher(line);
        if (call.matches()) {
            calls.add(line);
            answers.add(number(call.group(3)));
            shown.add(call.group(2) == null ? "feed" : call.group(2));
            body.append("all.add(").append(call.group(1)).append(");\n");
        } else {
            CHECK.same("a line that is no call with its answer", line, NEW_OBJECT);
            body.append(line).append('\n');
        }
    }

    private static int number(String answer) {
        switch (answer) {
            case "BAD":
                return ProtocolMachines.BAD;
            case "NONE":
                return ProtocolMachines.NONE;
            case "FULL":
                return ProtocolMachines.FULL;
            default:
                return Integer.parseInt(answer);
        }
    }

    private void makeCalls() throws IOException, ReflectiveOperationException {
        Path out = Files.createDirectories(Path.of("build", "readme"));
        Path file = Files.writeString(out.resolve("ReadmeCalls.java"), program);
        int failed = ToolProvider.getSystemJavaCompiler().run(null, null, null, "-Xlint:all", "-Werror", "-cp",
                System.getProperty("java.class.path"), "-d", out.toString(), file.toString());
        CHECK.due("compiling what README.md shows", failed, 0);
        if (failed != 0) {
            return;
        }
        try (URLClassLoader loader = new URLClassLoader(new URL[] {out.toUri().toURL()})) {
            Object made = loader.loadClass("ReadmeCalls").getDeclaredConstructor().newInstance();
            List<?> got = (List<?>) ((Supplier<?>) made).get();
            CHECK.due("calls", got.size(), calls.size());
            for (int i = 0; i < got.size(); i++) {
                CHECK.due(calls.get(i), (Integer) got.get(i), answers.get(i));
            }
        }
    }

    /** The calls of the document's face, without types. */
    private List<String> face(String document) {
        return all(document, "(?m)^    public int (\\w+\\(.*\\));$").stream().map(call -> call.replace("int ", ""))
                .collect(Collectors.toList());
    }

    private static List<String> names(List<String> face) {
        return face.stream().map(call -> call.replaceAll("\\(.*", "")).collect(Collectors.toList());
    }

    private static void ops(String readme, String document) {
        Matcher rows = Pattern.compile("(?m)^\\| (\\d+) ([A-Z]+) \\| (.*?) ?\\|").matcher(readme);
        int next = 0;
        while (rows.find()) {
            CHECK.due("the number of " + rows.group(2), Integer.parseInt(rows.group(1)), next++);
            String head = (rows.group(1) + " " + rows.group(2) + " " + rows.group(3)).trim();
            Pattern told = Pattern.compile(" " + head + "(?:[.:]| \\()");
            CHECK.is("in the document: " + head, told.matcher(document).find());
        }
        CHECK.due("ops", next, 12);
    }

    private static void tests(String readme) throws IOException {
        try (Stream<Path> files = Files.list(Path.of("src/test/java"))) {
            Set<String> there = files.map(p -> p.getFileName().toString()).filter(n -> n.endsWith("Test.java"))
                    .map(n -> n.replace(".java", "")).collect(Collectors.toCollection(TreeSet::new));
            CHECK.same("tests", new TreeSet<>(all(readme, "(?m)^\\| (\\w+Test) \\|")).toString(), there.toString());
        }
    }

    private static void constants(String readme) {
        Matcher told = Pattern.compile("\\b(BAD|NONE|FULL) \\((-?\\d+)\\)").matcher(readme);
        int found = 0;
        while (told.find()) {
            CHECK.due(told.group(1), Integer.parseInt(told.group(2)), number(told.group(1)));
            found++;
        }
        CHECK.is("constants", found >= 3);
    }
}
