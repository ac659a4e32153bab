import java.io.IOException;
import java.net.URL;
import java.net.URLClassLoader;
import java.nio.file.Files;
import java.nio.file.Path;
import java.util.ArrayList;
import java.util.List;
import java.util.Set;
import java.util.TreeSet;
import java.util.regex.Matcher;
import java.util.regex.Pattern;
import javax.tools.ToolProvider;

/**
 * README.md: what it shows of calls is compiled as it stands there, and each
 * answer behind a // is held against the one that the class gives; its table
 * of calls has each call of the face with its refusals.
 */
public final class ReadmeTest {
    private static final Check check = new Check("ReadmeTest");
    private static final Pattern SHOWN = Pattern.compile("(x\\.(\\w+)\\(.*\\));\\s+// (-?\\d+)\\b(.*)");
    private static final Pattern TEXT = Pattern.compile("the text is now (\\S+)$");
    private static final Pattern ROW = Pattern.compile("\\| `(\\w+\\([^`]*\\))` \\|.*\\|([^|]*)\\|");
    /** The refusals of each call, in their order, as the promises tell them. */
    private static final String[] CALLS = {
        "type(1) BAD FULL", "wipe(0)", "undo(0) NOT", "fault(0)", "read(1) BAD NULL", "shown(1) BAD",
        "node(2) BAD", "scope(2) BAD", "bound(1) BAD NOT", "own(2) BAD", "family(1) BAD NOT", "uses(1) BAD NOT",
        "hides(1) BAD NOT", "idle(0)", "plan(3) BAD NOT", "edits(3) BAD NOT", "caught(3) BAD NOT", "easy(1) BAD NOT",
        "rename(2) BAD NOT", "back(0) NOT", "sheet(3) BAD SIZE", "lose(1) BAD NULL", "put(4) BAD NULL CAST INDEX",
        "get(3) BAD NULL CAST INDEX", "copy(5) BAD NULL STORE INDEX", "write(1) BAD NULL", "count(1) BAD",
        "digest(0)",
    };

    /** Called by what is made of the page: an answer that it shows. */
    public static void due(String call, long got, long shown) {
        check.due("README.md " + call, got, shown);
    }

    /** Called by what is made of the page: a text that it shows. */
    public static void text(String call, RenameGraph x, String shown) {
        check.due("README.md, the text behind " + call, Check.textOf(x), shown);
    }

    public static void main(String[] args) throws IOException, ReflectiveOperationException {
        List<String> page = Files.readAllLines(Path.of("README.md"));
        Set<String> shown = new TreeSet<>();
        List<String> blocks = blocks(page, shown);
        check.holds("blocks of calls: " + blocks.size(), blocks.size() >= 4);
        for (String call : CALLS) {
            String name = call.substring(0, call.indexOf('('));
            check.holds("an answer of " + name + " is shown", shown.contains(name));
        }
        run(blocks);
        check.due("the table of calls", String.join("\n", rows(page)), String.join("\n", CALLS));
        check.end();
    }

    /** The lines between ```java and ```, with a call that holds each answer in the place of what shows it. */
    private static List<String> blocks(List<String> page, Set<String> shown) {
        List<String> all = new ArrayList<>();
        StringBuilder block = null;
        for (String line : page) {
            if (line.equals("```java")) {
                block = new StringBuilder();
            } else if (line.equals("```") && block != null) {
                all.add(block.toString());
                block = null;
            } else if (block != null) {
                block.append(held(line, shown)).append('\n');
            }
        }
        return all;
    }

    private static String held(String line, Set<String> shown) {
        Matcher m = SHOWN.matcher(line.strip());
        if (!m.matches()) {
            check.holds("no answer is overlooked in: " + line, !line.contains("//"));
            return line;
        }
        shown.add(m.group(2));
        String call = quoted(m.group(1));
        String out = "ReadmeTest.due(" + call + ", " + m.group(1) + ", " + m.group(3) + "L);";
        Matcher t = TEXT.matcher(m.group(4));
        return t.find() ? out + " ReadmeTest.text(" + call + ", x, " + quoted(t.group(1)) + ");" : out;
    }

    private static String quoted(String s) {
        return '"' + s.replace("\\", "\\\\").replace("\"", "\\\"") + '"';
    }

    private static void run(List<String> blocks) throws IOException, ReflectiveOperationException {
        StringBuilder source = new StringBuilder("public final class Shown {\n");
        StringBuilder all = new StringBuilder("    public static void all() {\n");
        for (int k = 0; k < blocks.size(); k++) {
            source.append("    static void block").append(k).append("() {\n").append(blocks.get(k)).append("    }\n");
            all.append("        block").append(k).append("();\n");
        }
        source.append(all).append("    }\n}\n");
        Path room = Files.createTempDirectory("readme");
        Path file = room.resolve("Shown.java");
        Path made = room.resolve("Shown.class");
        Files.writeString(file, source);
        String[] how = {"-cp", System.getProperty("java.class.path"), "-d", room.toString(), file.toString()};
        int code = ToolProvider.getSystemJavaCompiler().run(null, null, null, how);
        check.due("compiling what is shown", code, 0);
        if (code == 0) {
            try (URLClassLoader loader = new URLClassLoader(new URL[] {room.toUri().toURL()})) {
                loader.loadClass("Shown").getMethod("all").invoke(null);
            }
        }
        Files.deleteIfExists(made);
        Files.delete(file);
        Files.delete(room);
    }

    private static List<String> rows(List<String> page) {
        List<String> all = new ArrayList<>();
        for (String line : page) {
            Matcher m = ROW.matcher(line);
            if (m.matches()) {
                String call = m.group(1);
                String inside = call.substring(call.indexOf('(') + 1, call.length() - 1);
                int numbers = inside.isEmpty() ? 0 : inside.split(", ").length;
                StringBuilder row = new StringBuilder(call.substring(0, call.indexOf('('))).append("(" + numbers + ")");
                for (String refusal : m.group(2).strip().split("; ")) {
                    row.append(refusal.isEmpty() ? "" : " " + refusal.replaceAll(":.*", ""));
                }
                all.add(row.toString());
            }
        }
        return all;
    }
}
