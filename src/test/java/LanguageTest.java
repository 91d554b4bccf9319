import java.io.PrintWriter;
import java.io.StringWriter;
import java.lang.reflect.Constructor;
import java.lang.reflect.Field;
import java.lang.reflect.Method;
import java.lang.reflect.Modifier;
import java.nio.file.Files;
import java.nio.file.Path;
import java.util.ArrayList;
import java.util.Arrays;
import java.util.List;
import java.util.Map;
import java.util.Set;
import java.util.TreeMap;
import java.util.TreeSet;
import java.util.regex.Matcher;
import java.util.regex.Pattern;
import java.util.spi.ToolProvider;

/** What of LANGUAGE.md can be seen from the file's text and from the class itself. */
public final class LanguageTest {
    private static final Due DUE = new Due("LanguageTest");
    private static final String FACE = "act(iii)i back()i best(iii)i boarded(i)i body(i)i broad(i)i build(ii)i burns(i)i count(i)i"
        + " cracks(ii)i element(ii)l falls(i)i feed(i)i fuel(ii)i heat(ii)i highest()i image()i judge(ii)i keep(ii)i law()i"
        + " led(i)i mend(iii)i nights(ii)i of(ii)i pane(i)i put(iil)i redo()i rival(i)i rounds(iii)i row(iii)i shift(iiiii)i"
        + " straight(ii)i taken(ii)i topples(i)i trace(i)i unbuild()i undo()i watch(ii)i without()i";

    // Rule 8: those that call themselves or one another; each carries its depth, or its level and how many are open.
    private static final List<String> RECURSIVE = List.of("PalletSky$Parser.chain", "PalletSky$Parser.operand",
        "PalletSky$Bodies.run", "PalletSky$Bodies.result");
    private static final List<String> LIBRARY = List.of("java/lang/Object.<init>", "java/lang/System.arraycopy",
        "java/lang/Math.max", "java/lang/Math.min", "java/lang/Math.abs", "java/lang/Integer.bitCount");

    // The document itself names Long.MIN_VALUE.
    private static final List<String> NAMED = List.of("System.arraycopy", "Math.max", "Math.min", "Math.abs", "Integer.bitCount",
        "Long.MIN_VALUE");

    // How javap shows the head of a method, and a step of it; of a call also whose and which.
    private static final Pattern HEAD = Pattern.compile("^  (?:\\w.*?)?(?:([\\w$]+)\\(.*\\)|static \\{\\});$");
    private static final Pattern STEP = Pattern.compile(
        "^ +\\d+: (\\w+) *(?:#\\d+.*// (?:Interface)?Method ([\\w$/]+\\.)?\"?([\\w<>]+)\"?:.*)?");

    /** Who calls whom, by class and name; and what is called of the library. */
    private static final Map<String, Set<String>> calls = new TreeMap<>();
    private static final Set<String> library = new TreeSet<>();

    public static void main(String[] args) throws Exception {
        String source = Files.readString(Path.of("src/main/java/PalletSky.java"));
        String bare = bare(source);
        words(source, bare);
        methods(bare);
        face();
        List<Class<?>> classes = new ArrayList<>(Arrays.asList(PalletSky.class.getDeclaredClasses()));
        for (Class<?> c : classes) {
            is("rule 2: static " + c, Modifier.isStatic(c.getModifiers()));
            is("rule 1: not public " + c, !Modifier.isPublic(c.getModifiers()) && !Modifier.isProtected(c.getModifiers()));
        }
        classes.add(PalletSky.class);
        is("rule 11: classes", classes.size() <= 12);
        for (Class<?> c : classes) {
            members(c);
            code(c);
        }
        int deep = deepest("");
        is("rule 11: " + deep + " calls deep", deep >= 3 && deep <= 8);
        is("rules 4, 13: the library " + library, LIBRARY.containsAll(library));
        DUE.end();
    }

    private static void is(String what, boolean so) {
        DUE.is(what, so ? 1 : 0, 1);
    }

    /** The text without comments, and without what stands in texts and signs. */
    private static String bare(String source) {
        return source.replaceAll("(?s)/\\*.*?\\*/", "").replaceAll("//[^\n]*", "").replaceAll("\"[^\"\n]*\"", "\"\"")
            .replaceAll("'[^'\n]'", "'x'");
    }

    private static void words(String source, String bare) {
        String[] none = {"throw", "throws", "try", "catch", "finally", "synchronized", "assert", "import", "package", "transient",
            "volatile", "native", "protected", "record", "Object", "Exception", "System.out", "hashCode", "toString", "var",
            "Random", "Thread", "yield"};
        for (String word : none) {
            is("no word " + word, !Pattern.compile("\\b" + Pattern.quote(word) + "\\b").matcher(bare).find());
        }
        // Constants of the library leave no trace in the class: javap does not show them.
        Matcher name = Pattern.compile("\\b(Integer|Long|Math|System|Arrays|Byte|Short|Character|Boolean)\\.(\\w+)").matcher(bare);
        while (name.find()) {
            is("rule 4: no " + name.group(), NAMED.contains(name.group()));
        }
        is("no lambda", !bare.contains("->"));
        is("no method reference", !bare.contains("::"));
        is("no static block", !Pattern.compile("static\\s*\\{").matcher(bare).find());
        for (int i = 0; i < source.length(); i++) {
            char c = source.charAt(i);
            if (c != '\n' && (c < 32 || c > 126)) {
                is("sign " + (int) c, false);
            }
        }
    }

    /** Rule 11: lines of a method, and its parameters. */
    private static void methods(String bare) {
        Matcher head = Pattern.compile("\n( +)[A-Za-z][A-Za-z0-9 \\[\\]]*\\(([^()]*)\\) \\{\n").matcher(bare);
        int found = 0;
        for (int at = 0; head.find(at); at = head.end() - 1) {
            int end = bare.indexOf("\n" + head.group(1) + "}", head.end() - 1);
            String name = head.group().trim();
            if (name.startsWith("for") || name.startsWith("if") || name.startsWith("while") || name.startsWith("switch")
                || name.startsWith("else")) {
                continue;
            }
            found++;
            int lines = bare.substring(head.start() + 1, end + 1).split("\n").length + 1;
            is("rule 11: " + lines + " lines of " + name, lines <= 60);
            is("rule 11: parameters of " + name, head.group(2).split(",").length <= 7);
        }
        is("methods are found", found > 80);
    }

    private static String shown(Class<?> c) throws Exception {
        Path at = Path.of(PalletSky.class.getProtectionDomain().getCodeSource().getLocation().toURI());
        StringWriter text = new StringWriter();
        PrintWriter out = new PrintWriter(text);
        ToolProvider.findFirst("javap").orElseThrow().run(out, out, "-c", "-p", at.resolve(c.getName() + ".class").toString());
        return text.toString();
    }

    /** What can be seen of a class by javap: its calls, and what rules 2, 3, 6 leave out. */
    private static void code(Class<?> c) throws Exception {
        String caller = "";
        int found = 0;
        for (String line : shown(c).split("\n")) {
            Matcher head = HEAD.matcher(line);
            Matcher step = STEP.matcher(line);
            if (head.find()) {
                String name = head.group(1) == null ? "<clinit>" : head.group(1).equals(c.getName()) ? "<init>" : head.group(1);
                caller = c.getName() + "." + name;
                calls.putIfAbsent(caller, new TreeSet<>());
                found++;
            } else if (step.find()) {
                step(c, caller, line, step);
            }
            is("rule 6: no table of exceptions in " + caller, !line.contains("Exception table:"));
        }
        is("methods of " + c + " are seen", found > 0);
    }

    private static void step(Class<?> c, String caller, String line, Matcher step) {
        String what = step.group(1);
        is("rules 2, 3, 6: no " + what + " in " + caller,
            !what.matches("athrow|monitor.*|invokedynamic|[fd](add|sub|mul|div|rem|load.*|store.*)"));
        if (!what.startsWith("invoke")) {
            return;
        }
        is("each call is understood: " + line, step.group(3) != null);
        String owner = step.group(2) == null ? c.getName() + "." : step.group(2);
        (owner.startsWith("PalletSky") ? calls.get(caller) : library).add(owner + step.group(3));
    }

    /** How many calls deep it goes from a method on ("": from any), where those that are recursion do not count. */
    private static int deepest(String path) {
        int most = 0;
        String last = path.substring(path.lastIndexOf(' ') + 1);
        for (String next : path.isEmpty() ? calls.keySet() : calls.getOrDefault(last, Set.of())) {
            boolean again = (path + " ").contains(" " + next + " ");
            is("rule 8: only these are recursion, not " + next, !again || RECURSIVE.contains(next));
            if (!again) {
                most = Math.max(most, 1 + deepest(path + " " + next) - (RECURSIVE.contains(next) ? 1 : 0));
            }
        }
        return most;
    }

    private static String typed(Class<?> type) {
        return type == int.class ? "i" : type == long.class ? "l" : "?";
    }

    private static void face() throws Exception {
        TreeSet<String> all = new TreeSet<>();
        for (Method m : PalletSky.class.getDeclaredMethods()) {
            if (Modifier.isPrivate(m.getModifiers())) {
                continue;
            }
            StringBuilder text = new StringBuilder(m.getName() + "(");
            for (Class<?> type : m.getParameterTypes()) {
                text.append(typed(type));
            }
            all.add(text + ")" + typed(m.getReturnType()));
            is("rule 1: public " + m, m.getModifiers() == Modifier.PUBLIC);
        }
        is("rule 1: the face " + all, String.join(" ", all).equals(FACE));
        is("rule 1: the class", PalletSky.class.getModifiers() == (Modifier.PUBLIC | Modifier.FINAL));
        Constructor<?>[] made = PalletSky.class.getDeclaredConstructors();
        is("rule 1: the constructor", made.length == 1 && made[0].getModifiers() == Modifier.PUBLIC
            && made[0].getParameterCount() == 0);
        String[] names = {"BAD", "NOT", "FULL", "STATE", "VOID"};
        int[] values = {-1, -2, -3, -5, -2000000000};
        int open = 0;
        for (Field f : PalletSky.class.getDeclaredFields()) {
            open += Modifier.isPrivate(f.getModifiers()) ? 0 : 1;
        }
        is("rule 1: the constants", open == names.length);
        for (int i = 0; i < names.length; i++) {
            Field f = PalletSky.class.getDeclaredField(names[i]);
            DUE.is(names[i], f.getInt(null), values[i]);
            is(names[i], f.getModifiers() == (Modifier.PUBLIC | Modifier.STATIC | Modifier.FINAL) && f.getType() == int.class);
        }
    }

    private static void members(Class<?> c) {
        int own = 0;
        for (Field f : c.getDeclaredFields()) {
            boolean constant = Modifier.isStatic(f.getModifiers());
            own += constant ? 0 : 1;
            if (constant) {
                is("rule 5: final " + f, Modifier.isFinal(f.getModifiers()));
                is("rule 5: type of " + f, f.getType() == int.class || f.getType() == int[].class);
            }
            Class<?> type = f.getType();
            while (type.isArray()) {
                type = type.getComponentType();
            }
            is("rule 3: type of " + f, type == int.class || type == long.class || type == boolean.class
                || type.getName().startsWith("PalletSky"));
            is("rule 3: " + f, !f.getType().getName().startsWith("[[[") && !f.getType().getName().startsWith("[[L"));
        }
        is("rule 11: fields of " + c, own <= 20);
        String names = " " + FACE.replaceAll("\\([il]*\\)[il]", " ");
        for (Method m : c.getDeclaredMethods()) {
            is("rule 2: " + m, !m.isSynthetic());
            is("rule 1: name of " + m, !Modifier.isPublic(m.getModifiers()) ? !names.contains(" " + m.getName() + " ") : true);
        }
    }
}
