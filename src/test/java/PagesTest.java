import java.io.IOException;
import java.lang.reflect.Method;
import java.lang.reflect.Modifier;
import java.net.URL;
import java.net.URLClassLoader;
import java.nio.file.Files;
import java.nio.file.Path;
import java.util.ArrayList;
import java.util.Comparator;
import java.util.List;
import java.util.TreeSet;
import java.util.regex.Matcher;
import java.util.regex.Pattern;
import java.util.spi.ToolProvider;
import java.util.stream.Stream;

/** README.md and src/test/EDGES.md: what they tell of the class and of its tests is so. */
public final class PagesTest {
    private static final Due DUE = new Due("PagesTest");
    private static final Pattern BLOCK = Pattern.compile("(?s)```java\n(.*?)```");
    // A call of the example with its answer behind it.
    private static final Pattern CALL = Pattern.compile("(x\\.\\w+\\(.*\\)); +// (-?\\d+)\\b.*");
    private static final Pattern ROW = Pattern.compile("(?m)^\\| `(\\w+)\\(([^)]*)\\)` \\|");
    private static final Pattern NAME = Pattern.compile("`(?:(\\w+Test)(?:\\.(\\w+))?|(\\w+))`");

    public static void main(String[] args) throws Exception {
        String readme = Files.readString(Path.of("README.md"));
        example(readme);
        calls(readme);
        tests(readme);
        edges(Files.readString(Path.of("src/test/EDGES.md")));
        DUE.end();
    }

    /** The example, compiled as it stands on the page, gives the answers that stand behind its calls. */
    private static void example(String readme) throws Exception {
        Matcher block = BLOCK.matcher(readme);
        DUE.is("the page has one example", block.results().count(), 1);
        block.reset();
        if (!block.find()) {
            return;
        }
        List<String> told = new ArrayList<>();
        List<Long> due = new ArrayList<>();
        StringBuilder text = new StringBuilder("public class Example { public static void run(java.util.List<Long> got) {\n");
        for (String line : block.group(1).split("\n")) {
            Matcher call = CALL.matcher(line);
            if (call.matches()) {
                told.add(call.group(1));
                due.add(Long.parseLong(call.group(2)));
                text.append("got.add((long) ").append(call.group(1)).append(");\n");
            } else {
                DUE.is("an answer stands behind " + line, line.startsWith("x.") ? 0 : 1, 1);
                text.append(line).append('\n');
            }
        }
        List<Long> got = answers(text.append("} }\n").toString());
        DUE.is("calls of the example", got.size(), due.size());
        for (int i = 0; i < got.size() && i < due.size(); i++) {
            DUE.is("README.md " + told.get(i), got.get(i), due.get(i));
        }
    }

    private static List<Long> answers(String text) throws Exception {
        List<Long> got = new ArrayList<>();
        Path folder = Files.createTempDirectory("pages");
        try {
            Path file = Files.writeString(folder.resolve("Example.java"), text);
            int status = ToolProvider.findFirst("javac").orElseThrow().run(System.out, System.out,
                "-cp", System.getProperty("java.class.path"), "-d", folder.toString(), file.toString());
            DUE.is("the example compiles", status, 0);
            if (status == 0) {
                try (URLClassLoader loader = new URLClassLoader(new URL[] {folder.toUri().toURL()})) {
                    loader.loadClass("Example").getMethod("run", List.class).invoke(null, got);
                }
            }
        } finally {
            remove(folder);
        }
        return got;
    }

    private static void remove(Path folder) throws IOException {
        try (Stream<Path> all = Files.walk(folder)) {
            for (Path at : all.sorted(Comparator.reverseOrder()).toList()) {
                Files.delete(at);
            }
        }
    }

    /** Each call of the face has one row in the table of calls, with as many arguments. */
    private static void calls(String readme) {
        TreeSet<String> told = new TreeSet<>();
        int rows = 0;
        for (Matcher row = ROW.matcher(readme); row.find(); rows++) {
            told.add(row.group(1) + " " + (row.group(2).isEmpty() ? 0 : row.group(2).split(",").length));
        }
        TreeSet<String> due = new TreeSet<>();
        for (Method m : PalletSky.class.getDeclaredMethods()) {
            if (Modifier.isPublic(m.getModifiers())) {
                due.add(m.getName() + " " + m.getParameterCount());
            }
        }
        DUE.is("rows of calls", rows, due.size());
        DUE.is("README.md has the calls " + due + ", not " + told, told.equals(due) ? 1 : 0, 1);
    }

    /** Each test that .ci/run runs has a row in the table of tests. */
    private static void tests(String readme) throws IOException {
        try (Stream<Path> all = Files.list(Path.of("src/test/java"))) {
            for (Path file : all.toList()) {
                String name = file.getFileName().toString().replace(".java", "");
                DUE.is("README.md tells of " + name, !name.endsWith("Test") || readme.contains("\n| `" + name + "` |") ? 1 : 0, 1);
            }
        }
    }

    /** Each test that EDGES.md names is there; behind a full name others of the same class may stand without it. */
    private static void edges(String page) throws Exception {
        int named = 0;
        for (String line : page.split("\n")) {
            String cell = line.startsWith("| ") ? line.substring(0, line.lastIndexOf(" |")) : "";
            Matcher name = NAME.matcher(cell.substring(cell.lastIndexOf("| ") + 1));
            Class<?> in = null;
            while (name.find()) {
                in = name.group(1) == null ? in : Class.forName(name.group(1));
                String method = name.group(1) == null ? name.group(3) : name.group(2);
                DUE.is("EDGES.md: " + name.group(), in != null && (method == null || has(in, method)) ? 1 : 0, 1);
                named++;
            }
        }
        DUE.is("tests are named", named > 80 ? 1 : 0, 1);
    }

    private static boolean has(Class<?> in, String method) {
        for (Method m : in.getDeclaredMethods()) {
            if (m.getName().equals(method)) {
                return true;
            }
        }
        return false;
    }
}
