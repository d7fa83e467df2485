import java.io.ByteArrayOutputStream;
import java.io.IOException;
import java.io.PrintStream;
import java.net.URL;
import java.net.URLClassLoader;
import java.nio.charset.StandardCharsets;
import java.nio.file.Files;
import java.nio.file.Path;
import java.util.ArrayList;
import java.util.List;
import java.util.Map;
import java.util.TreeMap;
import java.util.regex.Matcher;
import java.util.regex.Pattern;
import java.util.stream.Stream;
import javax.tools.ToolProvider;

/** README.md tells each call as the document does, its program prints what it says, and it names each test. */
public final class ReadmeTest {
    private static final Path README = Path.of("README.md");
    private static final Path DOCUMENT = Path.of("../shared/DOC.md");
    private static final Path TESTS = Path.of("src/test/java");
    private static final Path EXAMPLE = Path.of("build/readme");

    private static final Check check = new Check();

    private ReadmeTest() {
    }

    public static void main(String[] args) throws Exception {
        String readme = Files.readString(README);
        calls(readme, Files.readString(DOCUMENT));
        settings(readme);
        tests(readme);
        example(block(readme));
        check.end();
    }

    // ---- the rows of the calls

    /** A call of the document: its parameters, what it throws in which order, and its promise. */
    private record Face(String parameters, List<String> thrown, String promise) {
    }

    private static void calls(String readme, String document) {
        Map<String, Face> due = face(document);
        check.due("the calls of the document", due.size(), 35);
        Map<String, Map<String, String>> rows = rows(readme);
        check.due("the calls of the page", rows.keySet().toString(), due.keySet().toString());
        for (String name : due.keySet()) {
            if (rows.containsKey(name)) {
                check.about(name);
                row(rows.get(name), due.get(name));
            }
        }
        check.about("README.md");
    }

    private static void row(Map<String, String> row, Face due) {
        String call = row.get("call");
        check.due("parameters", call.substring(call.indexOf('(') + 1, call.indexOf(')')), due.parameters());
        String thrown = row.get("what is thrown");
        check.due("exceptions", found("`(\\w+Exception)`", thrown).toString(), due.thrown().toString());
        check.due("nothing is thrown", Boolean.toString(thrown.equals("nothing")),
                Boolean.toString(due.thrown().isEmpty()));
        boolean undoable = due.promise().contains("Undoable");
        check.due("undoable", row.getOrDefault("undo()", "no"), undoable ? "yes" : "no");
        String back = row.get("what comes back");
        check.dueTrue("what comes back is told", !back.isEmpty());
        Matcher what = Pattern.compile("- `what`: (.*)").matcher(due.promise());
        if (what.find()) {
            check.due("numbers of what", numbers(back), numbers(what.group(1)));
        }
        boolean none = due.promise().contains("NONE");
        check.due("NONE is told", Boolean.toString(row.toString().contains("NONE")), Boolean.toString(none));
    }

    private static String numbers(String text) {
        return found("(?<!\\S)(\\d+): ", text).toString();
    }

    private static List<String> found(String pattern, String text) {
        List<String> found = new ArrayList<>();
        Matcher matcher = Pattern.compile(pattern).matcher(text);
        while (matcher.find()) {
            found.add(matcher.group(1));
        }
        return found;
    }

    private static Map<String, Face> face(String document) {
        int from = document.indexOf("```java");
        String code = document.substring(from, document.indexOf("```", from + 3));
        Map<String, Face> face = new TreeMap<>();
        Matcher matcher = Pattern.compile("public \\w+ (\\w+)\\(([^)]*)\\)( throws [^;]*)?;").matcher(code);
        while (matcher.find()) {
            String name = matcher.group(1);
            List<String> parameters = found("int (\\w+)", matcher.group(2));
            String clause = matcher.group(3) == null ? "" : matcher.group(3);
            face.put(name, new Face(String.join(", ", parameters), found("(\\w+Exception)", clause),
                    promise(document, name)));
        }
        return face;
    }

    /** What stands below the heading of the call. */
    private static String promise(String document, String name) {
        Matcher heading = Pattern.compile("(?m)^## Promise \\d+: " + name + "$").matcher(document);
        if (!heading.find()) {
            check.due("the heading of " + name, "none", "a promise");
            return "";
        }
        int end = document.indexOf("\n## ", heading.end());
        return document.substring(heading.end(), end);
    }

    /** The rows of calls by their names, each with its cells by the heads of their columns. */
    private static Map<String, Map<String, String>> rows(String readme) {
        Map<String, Map<String, String>> rows = new TreeMap<>();
        String[] heads = {};
        for (String line : readme.split("\n")) {
            String[] cells = line.startsWith("|") ? line.substring(2, line.length() - 2).split(" \\| ") : new String[0];
            if (cells.length > 0 && cells[0].equals("call")) {
                heads = cells;
            }
            Matcher name = Pattern.compile("`(\\w+)\\([^`]*\\)`").matcher(cells.length > 0 ? cells[0] : "");
            if (!name.matches()) {
                continue;
            }
            check.due("cells of " + name.group(1), cells.length, heads.length);
            Map<String, String> row = new TreeMap<>();
            for (int i = 0; i < cells.length && i < heads.length; i++) {
                row.put(heads[i], cells[i]);
            }
            check.due("another row of " + name.group(1), String.valueOf(rows.put(name.group(1), row)), "null");
        }
        return rows;
    }

    // ---- the settings

    /** The rows of settings tell the ranges that set() takes and the values of a new object. */
    private static void settings(String readme) {
        Matcher row = Pattern.compile("(?m)^\\| (\\d) \\| [^|]* \\| (\\d) to (\\d) \\| (\\d) \\|$").matcher(readme);
        int rows = 0;
        while (row.find()) {
            int setting = Integer.parseInt(row.group(1));
            check.due("the row of a setting", setting, rows);
            NotchedKeys x = new NotchedKeys();
            check.due("at first", row.group(4), Integer.toString(x.setting(setting)));
            for (int value = -2; value <= 12; value++) {
                boolean inside = value >= Integer.parseInt(row.group(2)) && value <= Integer.parseInt(row.group(3));
                int tried = value;
                boolean taken = !Character.isLetter(Check.answer(() -> x.set(setting, tried)).charAt(0));
                check.due("setting " + setting + " takes " + value, Boolean.toString(taken), Boolean.toString(inside));
            }
            rows++;
        }
        check.due("rows of settings", rows, 4);
    }

    // ---- the tests

    private static void tests(String readme) throws IOException {
        try (Stream<Path> files = Files.list(TESTS)) {
            for (Path file : files.sorted().toList()) {
                String name = file.getFileName().toString().replace(".java", "");
                check.dueTrue(name + " is named", readme.contains("`" + name + "`"));
            }
        }
        for (String name : found("`(\\w+Test)`", readme)) {
            check.dueTrue(name + " is there", Files.exists(TESTS.resolve(name + ".java")));
        }
    }

    // ---- the program

    private static String block(String readme) {
        int from = readme.indexOf("```java\n");
        int end = readme.indexOf("\n```", from);
        check.dueTrue("the page has a program", from >= 0 && end >= 0);
        return from >= 0 && end >= 0 ? readme.substring(from + "```java\n".length(), end + 1) : "";
    }

    private static void example(String program) throws Exception {
        Files.createDirectories(EXAMPLE);
        Path file = Files.writeString(EXAMPLE.resolve("Example.java"), program);
        ByteArrayOutputStream told = new ByteArrayOutputStream();
        int failed = ToolProvider.getSystemJavaCompiler().run(null, told, told, "-Xlint:all", "-Werror", "-cp",
                System.getProperty("java.class.path"), "-d", EXAMPLE.toString(), file.toString());
        check.due("compiling the program says " + told, failed, 0);
        if (failed == 0) {
            List<String> due = found("System\\.out\\.println\\(.*;\\s+// (-?\\w+)", program);
            check.due("lines that print", due.size(), found("(println)", program).size());
            check.due("what the program prints", printed().toString(), due.toString());
        }
    }

    private static List<String> printed() throws Exception {
        PrintStream before = System.out;
        ByteArrayOutputStream printed = new ByteArrayOutputStream();
        URL[] place = {EXAMPLE.toUri().toURL()};
        try (URLClassLoader loader = new URLClassLoader(place)) {
            System.setOut(new PrintStream(printed, true, StandardCharsets.UTF_8));
            loader.loadClass("Example").getMethod("main", String[].class).invoke(null, (Object) new String[0]);
        } finally {
            System.setOut(before);
        }
        return printed.toString(StandardCharsets.UTF_8).lines().toList();
    }
}
