import java.io.IOException;
import java.net.URL;
import java.net.URLClassLoader;
import java.nio.file.Files;
import java.nio.file.Path;
import java.util.ArrayList;
import java.util.List;
import java.util.Map;
import java.util.TreeMap;
import java.util.TreeSet;
import java.util.function.Supplier;
import java.util.regex.Matcher;
import java.util.regex.Pattern;
import java.util.stream.Stream;
import javax.tools.ToolProvider;

/** What README.md says of the class holds: its example, its lines and faults of a text, its calls, its tests. */
public final class ReadmeTest {
    private static final String README = Document.read(Path.of("README.md"));
    private static final Pattern ANSWER = Pattern.compile("(.+);\\s+// (throws \\w+|true|false|-?\\d+)(:.*)?");

    public static void main(String[] args) throws Exception {
        example();
        lines();
        faults();
        calls();
        whatIsLookedAtFirst();
        tests();
        Run.end("ReadmeTest");
    }

    // ---- The example is compiled as it stands there, each answer compared with the one behind it ----

    private static void example() throws Exception {
        List<String> blocks = new ArrayList<>();
        Matcher block = Pattern.compile("```java\n(.*?)```", Pattern.DOTALL).matcher(README);
        while (block.find()) {
            blocks.add(block.group(1));
        }
        Run.isTrue("there are helpers and an example", blocks.size() == 2);
        StringBuilder body = new StringBuilder();
        int answers = 0;
        for (String line : blocks.get(1).lines().toList()) {
            Matcher answer = ANSWER.matcher(line);
            boolean is = answer.matches();
            answers += is ? 1 : 0;
            body.append(is ? compared(answer.group(1), answer.group(2)) : line).append('\n');
        }
        Run.isTrue("the example tells answers", answers >= 15);
        runMain("public class Example { public static void run() {\n" + body + "}\n" + blocks.get(0) + "}\n");
    }

    private static String compared(String call, String due) {
        String quoted = call.replace("\"", "\\\"");
        return "ReadmeTest.compare(\"" + quoted + "\", \"" + due + "\", () -> String.valueOf(" + call + "));";
    }

    public static void compare(String call, String due, Supplier<String> answer) {
        String got;
        try {
            got = answer.get();
        } catch (RuntimeException e) {
            got = "throws " + e.getClass().getSimpleName();
        }
        Run.isTrue(call + " answers " + got + ", README.md says " + due, got.equals(due));
    }

    private static void runMain(String source) throws Exception {
        Path folder = Files.createTempDirectory("readme");
        Path file = folder.resolve("Example.java");
        Files.writeString(file, source);
        int failed = ToolProvider.getSystemJavaCompiler().run(null, null, null, "-d", folder.toString(),
                "-cp", System.getProperty("java.class.path"), file.toString());
        Run.isTrue("the example compiles", failed == 0);
        if (failed == 0) {
            try (URLClassLoader loader = new URLClassLoader(new URL[] {folder.toUri().toURL()})) {
                loader.loadClass("Example").getMethod("run").invoke(null);
            }
        }
        empty(folder);
    }

    private static void empty(Path folder) throws IOException {
        try (Stream<Path> files = Files.list(folder)) {
            for (Path file : files.toList()) {
                Files.delete(file);
            }
        }
        Files.delete(folder);
    }

    // ---- Its tables ----

    /** The rows of the table below a heading, a list of cells each. */
    private static List<List<String>> table(String heading) {
        List<List<String>> rows = new ArrayList<>();
        boolean within = false;
        for (String line : README.lines().toList()) {
            within = line.startsWith(heading) || within && line.startsWith("|");
            if (within && !line.startsWith(heading) && !line.startsWith("| ---")) {
                rows.add(Stream.of(line.split("\\|")).skip(1).map(String::strip).toList());
            }
        }
        return rows;
    }

    private static String code(String cell) {
        return cell.substring(1, cell.length() - 1);
    }

    private static void lines() {
        Map<String, Run> runs = new TreeMap<>();
        for (List<String> row : table("| line |")) {
            String line = code(row.get(0));
            runs.put(line.substring(0, line.indexOf(' ')), Run.of(line.matches("(gone|copy) .*") ? "plain 9;" + line : line));
        }
        Run.isTrue("all kinds of lines are told", runs.size() == 10);
        runs.get("plain").due(0, "book", 0, 0).due(9, "book", 0, 1).due(3, "number", 0, 3).noSuch("number", 0, 19);
        runs.get("sewn").due(1, "book", 0, 0).due(8, "book", 0, 1).due(3, "number", 0, 3);
        runs.get("roman").due(2, "book", 0, 0).due(0, "number", 0, 4).due(1, "number", 0, 5).due(2, "number", 0, 6);
        runs.get("odd").due(3, "book", 0, 0).due(5, "number", 0, 3);
        runs.get("even").due(4, "book", 0, 0).due(6, "number", 0, 3);
        runs.get("skip").due(5, "book", 0, 0).due(6, "number", 0, 6).due(8, "number", 0, 7).due(20, "number", 0, 18);
        runs.get("told").due(6, "book", 0, 0).due(6, "number", 0, 3).due(7, "number", 0, 4);
        runs.get("gone").due(2, "book", 0, 2).due(0, "isThere", 0, 1).due(0, "isThere", 0, 2).due(1, "isThere", 0, 0);
        runs.get("copy").due(1, "count", 1).due(1, "tear", 0, 2).due(1, "whole", 0).due(2, "tear", 0, 3).due(-1, "whole", 0);
        runs.get("lead").due(9, "count", 10).due(2, "count", 12).due(16, "far", 0);
    }

    private static void faults() {
        List<List<String>> rows = table("| fault |");
        Run.isTrue("all faults are told", rows.size() == 5);
        for (int i = 0; i < rows.size(); i++) {
            List<String> row = rows.get(i);
            Run.isTrue("fault " + (i + 1) + " has its row", row.get(0).equals(Integer.toString(i + 1)));
            Run.faulty(i + 1, Integer.parseInt(row.get(3)), code(row.get(2)));
        }
    }

    private static void calls() {
        List<List<String>> rows = table("| call |");
        Run.isTrue("each method has a row", rows.size() == Document.methods().size());
        for (int i = 0; i < rows.size(); i++) {
            boolean found = false;
            for (String method : Document.methods()) {
                if (code(rows.get(i).get(0)).equals(named(method))) {
                    found = true;
                    compareThrown(method, rows.get(i));
                }
            }
            Run.isTrue(rows.get(i).get(0) + " is a method", found);
            Run.isTrue(rows.get(i).get(0) + " has no other row", rows.indexOf(rows.get(i)) == i);
        }
    }

    private static void compareThrown(String method, List<String> row) {
        String told = thrownOf(row);
        Run.isTrue(method + ": N", told.contains("N") == method.contains("NoSuchElementException"));
        Run.isTrue(method + ": I", told.contains("I") == method.contains("IllegalArgumentException"));
    }

    /** N and I, in which order they stand in the last cell. */
    private static String thrownOf(List<String> row) {
        String cell = row.size() > 2 ? row.get(2) : "";
        return cell.replaceAll("[^NI]", "");
    }

    /** A declaration's name, with the names alone of its arguments. */
    private static String named(String method) {
        return method.replaceAll("public \\w+ (\\w+\\(.*?\\)).*", "$1").replaceAll("(int|long|boolean) ", "");
    }

    private static void whatIsLookedAtFirst() {
        Map<String, Object[]> wrongTwice = new TreeMap<>();
        wrongTwice.put("fits", new Object[] {0, 99});
        wrongTwice.put("leaf", new Object[] {0, 99});
        wrongTwice.put("several", new Object[] {0, 1, 99});
        wrongTwice.put("way", new Object[] {0, 1, 3, 99});
        wrongTwice.put("street", new Object[] {0, 2, true});
        wrongTwice.put("said", new Object[] {0, 11, 1});
        wrongTwice.put("between", new Object[] {2, 1, 11});
        wrongTwice.put("seed", new Object[] {9, 0, 61});
        wrongTwice.put("read", new Object[] {9, 2, 1, 0, 1, true});
        wrongTwice.put("shares", new Object[] {9, 9});
        wrongTwice.put("least", new Object[] {9, -1});
        Run run = Run.of("plain 3;");
        for (List<String> row : table("| call |")) {
            String call = code(row.get(0)).replaceAll("\\(.*", "");
            String thrown = thrownOf(row);
            Run.isTrue(call + " is wrong in two ways", wrongTwice.containsKey(call) == (thrown.length() == 2));
            if (thrown.equals("NI")) {
                run.noSuch(call, wrongTwice.get(call));
            } else if (thrown.equals("IN")) {
                run.illegal(call, wrongTwice.get(call));
            }
        }
    }

    private static void tests() throws IOException {
        TreeSet<String> told = new TreeSet<>();
        for (List<String> row : table("| test |")) {
            told.add(code(row.get(0)) + ".java");
        }
        TreeSet<String> found = new TreeSet<>();
        try (Stream<Path> files = Files.list(Path.of("src/test/java"))) {
            files.map(file -> file.getFileName().toString()).filter(name -> name.endsWith("Test.java")).forEach(found::add);
        }
        Run.isTrue("tests are " + found + ", README.md tells " + told, told.equals(found));
    }
}
