import java.io.ByteArrayOutputStream;
import java.io.IOException;
import java.io.PrintStream;
import java.lang.reflect.Method;
import java.net.URL;
import java.net.URLClassLoader;
import java.nio.charset.StandardCharsets;
import java.nio.file.Files;
import java.nio.file.Path;
import java.util.ArrayList;
import java.util.LinkedHashMap;
import java.util.List;
import java.util.Map;
import java.util.TreeSet;
import java.util.regex.Matcher;
import java.util.regex.Pattern;
import javax.tools.ToolProvider;

/** README.md: its example prints what it says, its tables tell the calls as ../shared/DOC.md does. */
public final class ReadmeTest {
    private static final Pattern PROMISE = Pattern.compile("`(\\w+ \\w+\\([^)]*\\)).*?`: .*");
    private static final Pattern RANGE = Pattern.compile("- (`\\w+`): (.*)");
    private static final String STATE = "Throws `IllegalStateException` if ";
    private static final Check check = new Check();

    public static void main(String[] args) throws Exception {
        String readme = Files.readString(Path.of("README.md"));
        tellsEachCall(readme);
        tellsEachTest(readme);
        tellsExceptions(readme);
        examplePrints(block(readme, "java"), block(readme, "text"));
        check.end();
    }

    private static void tellsEachCall(String readme) throws IOException {
        Map<String, List<String>> promises = promises();
        check.due("calls of the document", promises.size(), 19);
        Map<String, String[]> rows = rows(readme);
        check.dueText("calls of the tables", rows.keySet().toString(), promises.keySet().toString());
        promises.forEach((call, lines) -> {
            if (rows.containsKey(call)) {
                tellsCall(call, lines, rows.get(call));
            }
        });
    }

    private static void tellsCall(String call, List<String> lines, String[] row) {
        String takes = row[1];
        String state = "";
        for (String line : lines) {
            Matcher range = RANGE.matcher(line);
            if (range.matches()) {
                String told = range.group(1) + " " + range.group(2);
                check.due(call + " takes " + told, takes.contains(told), true);
            } else if (line.startsWith(STATE)) {
                state = line.substring(STATE.length());
            }
        }
        check.dueText(call + " throws IllegalStateException if", row[3], state);
        check.due(call + " answers something", row[2].isEmpty(), false);
        check.due(call + " answers by bits", row[2].contains("by its bits"), call.startsWith("long "));
    }

    /** The lines of each call's promise, by the call's type, name and parameters. */
    private static Map<String, List<String>> promises() throws IOException {
        Map<String, List<String>> promises = new LinkedHashMap<>();
        List<String> lines = new ArrayList<>();
        for (String line : Files.readAllLines(Path.of("../shared/DOC.md"))) {
            Matcher promise = PROMISE.matcher(line);
            if (promise.matches()) {
                lines = new ArrayList<>();
                promises.put(promise.group(1), lines);
            } else {
                lines.add(line);
            }
        }
        return promises;
    }

    /** The rows of the tables of calls: what it is called, takes, answers, and throws. */
    private static Map<String, String[]> rows(String readme) {
        Map<String, String[]> rows = new LinkedHashMap<>();
        for (String line : readme.split("\n")) {
            String[] cells = line.split("\\|", -1);
            if (cells.length == 6 && cells[1].contains("(")) {
                String[] row = new String[4];
                for (int i = 0; i < row.length; i++) {
                    row[i] = cells[i + 1].trim();
                }
                rows.put(row[0].replace("`", ""), row);
            }
        }
        return rows;
    }

    private static void tellsEachTest(String readme) throws IOException {
        TreeSet<String> told = new TreeSet<>();
        Matcher row = Pattern.compile("(?m)^\\| `(\\w+Test)` \\|").matcher(readme);
        while (row.find()) {
            told.add(row.group(1));
        }
        TreeSet<String> there = new TreeSet<>();
        try (var files = Files.newDirectoryStream(Path.of("src/test/java"), "*Test.java")) {
            files.forEach(file -> there.add(file.getFileName().toString().replace(".java", "")));
        }
        check.dueText("tests", told.toString(), there.toString());
    }

    /** In the order in which one goes before another. */
    private static void tellsExceptions(String readme) {
        int last = 0;
        for (String each : new String[] {"IndexOutOfBounds", "IllegalArgument", "IllegalState"}) {
            int found = readme.indexOf("\n- `" + each + "Exception`: ");
            check.due(each + " is told, and behind those that go before it", found > last, true);
            last = found;
        }
    }

    /** The first block of that kind, empty if there is none. */
    private static String block(String readme, String kind) {
        Matcher block = Pattern.compile("(?s)\n```" + kind + "\n(.*?)```\n").matcher(readme);
        return block.find() ? block.group(1) : "";
    }

    private static void examplePrints(String program, String due) throws Exception {
        Path folder = Files.createDirectories(Path.of("build/readme"));
        Path file = Files.writeString(folder.resolve("Example.java"), program);
        int failed = ToolProvider.getSystemJavaCompiler().run(null, null, null, "--release", "17",
                "-d", folder.toString(), "src/main/java/Transitry.java", file.toString());
        check.due("the example can't be compiled", failed, 0);
        if (failed == 0) {
            check.dueText("the example", printedBy(folder), due);
        }
    }

    private static String printedBy(Path folder) throws Exception {
        ByteArrayOutputStream printed = new ByteArrayOutputStream();
        PrintStream before = System.out;
        URL[] classes = {folder.toUri().toURL()};
        try (URLClassLoader loader = new URLClassLoader(classes, ClassLoader.getPlatformClassLoader())) {
            Method main = loader.loadClass("Example").getMethod("main", String[].class);
            System.setOut(new PrintStream(printed, true, StandardCharsets.UTF_8));
            main.invoke(null, (Object) new String[0]);
        } finally {
            System.setOut(before);
        }
        return printed.toString(StandardCharsets.UTF_8).replace("\r\n", "\n");
    }
}
