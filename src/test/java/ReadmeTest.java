import java.io.IOException;
import java.lang.reflect.Modifier;
import java.net.URL;
import java.net.URLClassLoader;
import java.nio.file.Files;
import java.nio.file.Path;
import java.util.ArrayList;
import java.util.Comparator;
import java.util.List;
import java.util.Set;
import java.util.TreeSet;
import java.util.regex.Matcher;
import java.util.regex.Pattern;
import java.util.stream.Collectors;
import java.util.stream.Stream;
import javax.tools.ToolProvider;

/** What README.md says is so: its code compiles, each call answers what stands behind it, its lists of classes and of tests are whole. */
public final class ReadmeTest {
    private static final Pattern BLOCK = Pattern.compile("(?ms)^```java\\n(.*?)^```$");
    private static final Pattern CALL = Pattern.compile("(\\S.*\\));\\s+// (-?\\d+|NONE|UNKNOWN|OUTSIDE|NOT|FULL)(: .*)?");
    private static final String MADE = "SugarStamps x = new SugarStamps();";

    private static int wrong = 0;

    public static void main(String[] args) throws IOException, ReflectiveOperationException {
        String readme = Files.readString(Path.of("README.md"));
        lookAtCalls(readme);
        lookAtClasses(readme);
        lookAtTests(readme);
        System.out.println(wrong == 0 ? "what README.md says is so" : wrong + " things that README.md says are not so");
        if (wrong != 0) System.exit(1);
    }

    private static void must(boolean holds, String what) {
        if (holds) return;
        wrong++;
        System.out.println("README.md: " + what);
    }

    /** Blocks that begin with 'static' hold functions; the rows of all others are calls on one object, in their order. */
    private static void lookAtCalls(String readme) throws IOException, ReflectiveOperationException {
        StringBuilder functions = new StringBuilder();
        List<String> rows = new ArrayList<>();
        Matcher block = BLOCK.matcher(readme);
        while (block.find()) {
            if (block.group(1).startsWith("static ")) functions.append(block.group(1));
            else rows.addAll(List.of(block.group(1).split("\n")));
        }
        StringBuilder body = new StringBuilder();
        for (String row : rows) body.append(compared(row));
        for (String name : face()) must(body.indexOf("x." + name + "(") >= 0, "no call of " + name + " is shown with its answer");
        if (wrong == 0) run(functions.toString(), body.toString());
    }

    private static Set<String> face() {
        return Stream.of(SugarStamps.class.getDeclaredMethods()).filter(m -> Modifier.isPublic(m.getModifiers())).map(m -> m.getName())
                .collect(Collectors.toCollection(TreeSet::new));
    }

    /** A row of README.md as a statement that compares the answer with what stands behind it. */
    private static String compared(String row) {
        if (row.isBlank() || row.startsWith("// ")) return "";
        if (row.equals(MADE)) return row + "\n";
        Matcher call = CALL.matcher(row);
        if (!call.matches()) {
            must(false, "this is no call with its answer: " + row);
            return "";
        }
        String want = call.group(2).matches("[A-Z]+") ? "SugarStamps." + call.group(2) : call.group(2);
        String told = call.group(1).replace("\\", "\\\\").replace("\"", "\\\"");
        return "due(\"" + told + "\", " + call.group(1) + ", " + want + ");\n";
    }

    private static void run(String functions, String body) throws IOException, ReflectiveOperationException {
        String source = """
                public final class ReadmeRun {
                private static int wrong = 0;
                private static void due(String call, int got, int want) {
                    if (got == want) return;
                    wrong++;
                    System.out.println("README.md: " + call + " answered " + got + ", what stands there is " + want);
                }
                public static int run() {
                """ + body + "return wrong;\n}\n" + functions + "}\n";
        Path folder = Files.createTempDirectory("readme");
        try {
            Path file = Files.writeString(folder.resolve("ReadmeRun.java"), source);
            int faults = ToolProvider.getSystemJavaCompiler().run(null, null, null, "-encoding", "UTF-8", "-cp",
                    System.getProperty("java.class.path"), "-d", folder.toString(), file.toString());
            must(faults == 0, "its code does not compile");
            if (faults == 0) wrong += answersNotAsShown(folder);
        } finally {
            clear(folder);
        }
    }

    private static int answersNotAsShown(Path folder) throws IOException, ReflectiveOperationException {
        try (URLClassLoader loader = new URLClassLoader(new URL[] {folder.toUri().toURL()})) {
            return (Integer) loader.loadClass("ReadmeRun").getMethod("run").invoke(null);
        }
    }

    private static void clear(Path folder) throws IOException {
        try (Stream<Path> all = Files.walk(folder)) {
            for (Path one : all.sorted(Comparator.reverseOrder()).toList()) Files.delete(one);
        }
    }

    /** The table has each class of the program once, and no other one. */
    private static void lookAtClasses(String readme) {
        Set<String> there = new TreeSet<>(Set.of("SugarStamps"));
        for (Class<?> c : SugarStamps.class.getDeclaredClasses()) there.add(c.getSimpleName());
        List<String> told = new ArrayList<>();
        Matcher row = Pattern.compile("(?m)^\\| (`\\w+`(?:, `\\w+`)*) \\|").matcher(readme);
        while (row.find()) told.addAll(List.of(row.group(1).replace("`", "").split(", ")));
        told.sort(Comparator.naturalOrder());
        must(told.equals(new ArrayList<>(there)), "its table of classes has " + told + ", there are " + there);
    }

    /** Each file that it names is there, and each test that is there is named. */
    private static void lookAtTests(String readme) throws IOException {
        Matcher name = Pattern.compile("`([\\w./]+\\.(?:java|md)|[\\w.]+/[\\w./]+)`").matcher(readme);
        Set<String> told = new TreeSet<>();
        while (name.find()) told.add(name.group(1));
        for (String one : told) must(Files.exists(Path.of(one)) || Files.exists(Path.of("src/test/java", one)), one + " is not there");
        try (Stream<Path> tests = Files.list(Path.of("src/test/java"))) {
            for (Path test : tests.filter(p -> p.toString().endsWith(".java")).toList()) {
                must(told.contains(test.toString()), test + " is not named");
            }
        }
    }
}
