import java.io.IOException;
import java.lang.reflect.Method;
import java.lang.reflect.Modifier;
import java.net.URL;
import java.net.URLClassLoader;
import java.nio.file.Files;
import java.nio.file.Path;
import java.util.ArrayList;
import java.util.Arrays;
import java.util.List;
import java.util.Map;
import java.util.TreeMap;
import java.util.TreeSet;
import java.util.regex.Matcher;
import java.util.regex.Pattern;
import java.util.stream.Stream;
import javax.tools.JavaCompiler;
import javax.tools.ToolProvider;

/** README.md: what it shows of texts, calls and answers is so, and it shows every call and every line of a text. */
public final class ReadmeTest {
    private static final int NONE = IllLight.NONE;
    private static final Check check = new Check();
    private static final Pattern ANSWERED = Pattern.compile("(x\\.(\\w+)\\(.*\\)|tell\\(.*\\)); +// (NONE|-?\\d+|true|false)(: .*)?");
    private static final String LATEST_SHIP = "size 8 8;ship 0 0 0 0;";

    public static void main(String[] args) throws Exception {
        Path readme = Path.of(args.length > 2 ? args[2] : "README.md");
        Path document = Path.of(args.length > 1 ? args[1] : "../shared/DOC.md");
        List<String> lines = Files.readAllLines(readme);
        code(lines);
        textLines(lines);
        faults(lines);
        refusals(lines, document);
        check.close();
    }

    private static void same(String what, Object got, Object want) {
        boolean same = got.equals(want);
        check.due(same ? what : what + " is " + got + ", not " + want, same, true);
    }

    /** The code of the page is one program: what begins with static is a method of it, all else is run, line by line. */
    private static void code(List<String> lines) throws Exception {
        StringBuilder methods = new StringBuilder();
        StringBuilder run = new StringBuilder();
        TreeSet<String> shown = new TreeSet<>();
        for (List<String> block : blocks(lines)) {
            boolean isMethod = block.stream().anyMatch(line -> line.startsWith("static "));
            for (String line : block) {
                Matcher answered = ANSWERED.matcher(line);
                if (isMethod) {
                    methods.append(line).append('\n');
                } else if (answered.matches()) {
                    String call = answered.group(1);
                    String want = answered.group(3).equals("NONE") ? "-1" : answered.group(3);
                    run.append("all.add(new String[] {\"").append(call.replace("\"", "\\\"")).append("\", \"\" + ")
                        .append(call).append(", \"").append(want).append("\"});\n");
                    shown.add(answered.group(2) == null ? "tell" : answered.group(2));
                } else {
                    check.due("a call without its answer, or one that can't be read: " + line,
                        line.contains("//") || line.startsWith("x."), false);
                    run.append(line).append('\n');
                }
            }
        }
        for (String[] one : runShown(methods.toString(), run.toString())) {
            same(one[0], one[1], one[2]);
        }
        for (String name : face().keySet()) {
            boolean isTold = List.of("feed", "end", "text", "fault").contains(name);
            check.due("the page shows " + name, isTold || shown.contains(name), true);
        }
    }

    private static List<List<String>> blocks(List<String> lines) {
        List<List<String>> all = new ArrayList<>();
        List<String> block = null;
        for (String line : lines) {
            if (line.equals("```java")) {
                block = new ArrayList<>();
                all.add(block);
            } else if (line.startsWith("```")) {
                block = null;
            } else if (block != null) {
                block.add(line);
            }
        }
        return all;
    }

    private static List<String[]> runShown(String methods, String run) throws Exception {
        Path folder = Files.createTempDirectory("readme");
        try {
            Path source = folder.resolve("Shown.java");
            Files.writeString(source, "import java.util.ArrayList;\nimport java.util.List;\npublic final class Shown {\n" + methods
                + "public static List<String[]> run() {\nList<String[]> all = new ArrayList<>();\n" + run + "return all;\n}\n}\n");
            JavaCompiler compiler = ToolProvider.getSystemJavaCompiler();
            int failed = compiler.run(null, System.out, System.out, "-cp", System.getProperty("java.class.path"),
                "-d", folder.toString(), source.toString());
            check.due("the page's code compiles", failed, 0);
            if (failed != 0) {
                return List.of();
            }
            try (URLClassLoader loader = new URLClassLoader(new URL[] {folder.toUri().toURL()})) {
                return answers(loader.loadClass("Shown").getMethod("run").invoke(null));
            }
        } finally {
            remove(folder);
        }
    }

    private static List<String[]> answers(Object given) {
        List<String[]> all = new ArrayList<>();
        for (Object one : (List<?>) given) {
            all.add((String[]) one);
        }
        return all;
    }

    private static void remove(Path folder) throws IOException {
        try (Stream<Path> files = Files.list(folder)) {
            for (Path file : files.toList()) {
                Files.delete(file);
            }
        }
        Files.delete(folder);
    }

    /** The rows of the table whose head begins with a cell, cut into cells. */
    private static List<String[]> table(List<String> lines, String head) {
        List<String[]> rows = new ArrayList<>();
        int at = 0;
        while (at < lines.size() && !lines.get(at).startsWith("| " + head + " |")) {
            at++;
        }
        for (int row = at + 2; row < lines.size() && lines.get(row).startsWith("| "); row++) {
            rows.add(lines.get(row).substring(2).split(" *\\| ?"));
        }
        check.due("a table of " + head, rows.isEmpty(), false);
        return rows;
    }

    private static String bare(String cell) {
        return cell.replaceAll("^`([^`]*)`.*", "$1");
    }

    private static void textLines(List<String> lines) {
        String[] heads = {"a coast's line", "a night's line", "a log's line"};
        String[] words = {"size lamp limit rock guard ship plain hired late divided asleep loyal", "go mean throw hour",
            "man limit errors lit dark"};
        for (int sort = 0; sort < 3; sort++) {
            List<String> shown = new ArrayList<>();
            StringBuilder all = new StringBuilder();
            for (String[] row : table(lines, heads[sort])) {
                String line = bare(row[0]);
                shown.add(line.replaceAll("[ ;].*", ""));
                String text = sort == 0 ? LATEST_SHIP + line : line;
                check.due(text, Check.tell(new IllLight(), sort, NONE, text), 0);
                // a ship has four men, and there are six kinds
                if (!line.startsWith("hired") && !line.startsWith("late")) {
                    all.append(line).append(" \n");
                }
            }
            same("words of sort " + sort, String.join(" ", shown), words[sort]);
            check.due("all of " + heads[sort], Check.tell(new IllLight(), sort, NONE, all.toString()), 0);
        }
    }

    private static void faults(List<String> lines) {
        int number = 0;
        for (String[] row : table(lines, "fault")) {
            number++;
            same("a row for each fault", row[0], "" + number);
            IllLight x = new IllLight();
            String text = bare(row[2]);
            check.due(text, Check.tell(x, 0, NONE, text), NONE);
            check.due("the fault of " + text, x.fault(0), number);
            same("its place", row[3], "" + x.fault(1));
        }
        check.due("faults", number, 6);
    }

    private static Map<String, Method> face() {
        Map<String, Method> all = new TreeMap<>();
        for (Method method : IllLight.class.getDeclaredMethods()) {
            if (Modifier.isPublic(method.getModifiers())) {
                all.put(method.getName(), method);
            }
        }
        return all;
    }

    private static void refusals(List<String> lines, Path document) throws Exception {
        String said = Files.exists(document) ? Files.readString(document).replaceAll("(int|boolean) (\\w+)(?=[,)])", "$2") : null;
        Map<String, Method> left = face();
        for (String[] row : table(lines, "call")) {
            String call = bare(row[0]);
            Method method = left.remove(call.replaceAll("\\(.*", ""));
            check.due("once in the face: " + call, method != null, true);
            if (method == null) {
                continue;
            }
            check.due("as the document has it: " + call, said == null || said.contains(" " + call + ";"), true);
            same("a refused " + call, refused(method), bare(row[2]).replace("NONE", "-1"));
        }
        same("calls without a row", left.keySet().toString(), "[]");
    }

    /** By 99 nothing is there, and no question knows it; only a full tape refuses feed(). */
    private static String refused(Method method) throws Exception {
        IllLight x = new IllLight();
        Object[] given = new Object[method.getParameterCount()];
        for (int k = 0; k < given.length; k++) {
            given[k] = method.getParameterTypes()[k] == boolean.class ? (Object) false : (Object) 99;
        }
        for (int k = 0; k < 30 && method.getName().equals("feed"); k++) {
            check.due("feed " + Arrays.toString(given), x.feed(99, 99, 99, 99, 99), 20 * (k + 1));
        }
        return "" + method.invoke(x, given);
    }
}
