import java.io.ByteArrayOutputStream;
import java.io.IOException;
import java.io.PrintStream;
import java.lang.reflect.Field;
import java.lang.reflect.Modifier;
import java.net.URL;
import java.net.URLClassLoader;
import java.nio.file.FileSystems;
import java.nio.file.Files;
import java.nio.file.Path;
import java.nio.file.PathMatcher;
import java.util.ArrayList;
import java.util.Comparator;
import java.util.LinkedHashSet;
import java.util.List;
import java.util.Set;
import java.util.regex.Matcher;
import java.util.regex.Pattern;
import java.util.stream.Stream;
import javax.tools.ToolProvider;

/** What README.md shows is so: its programs are compiled and run, its tables held against class and document. */
public final class ReadmeTests {
    private static final Path README = Path.of("README.md"), SOURCE = Path.of("src/main/java/HourHouse.java");
    private static final Path TESTS = Path.of("src/test/java"), DOC = Path.of("../shared/DOC.md");
    private static final Pattern BLOCK = Pattern.compile("^```(\\w+)\\n(.*?)^```$", Pattern.DOTALL | Pattern.MULTILINE);
    private static final Pattern SHOWN = Pattern.compile("(int (\\w+) = )?(.+);\\s+// (-?\\d+|[A-Z]+)(: .*)?");
    private static int checks = 0;
    private static int wrong = 0;

    public static void main(String[] args) throws Exception {
        String page = Files.readString(README);
        Path room = Files.createTempDirectory("readme");
        try {
            programs(page, room);
            run(page, room);
        } finally {
            removeAll(room);
        }
        constants(page);
        calls(page);
        files(page);
        System.out.println(wrong == 0 ? checks + " things of README.md are so" : wrong + " things of README.md are not so");
        if (wrong != 0) System.exit(1);
    }

    /** Asked by the program that is made of the page, too. */
    public static void due(String what, Object got, Object want) {
        checks++;
        if (!got.equals(want)) {
            wrong++;
            System.out.println("README.md: " + what + ": it is " + got + ", shown is " + want);
        }
    }

    private static List<String> blocks(String page, String kind) {
        List<String> found = new ArrayList<>();
        Matcher m = BLOCK.matcher(page);
        while (m.find()) if (m.group(1).equals(kind)) found.add(m.group(2));
        return found;
    }

    // ---- programs

    private static boolean isProgram(String block) {
        return block.startsWith("public final class ");
    }

    /** Whole programs print what the blocks of text show, one behind the other. */
    private static void programs(String page, Path room) throws Exception {
        List<String> shown = blocks(page, "text");
        int many = 0;
        for (String block : blocks(page, "java")) {
            if (!isProgram(block)) continue;
            String name = block.split("\\s+")[3];
            String printed = compiled(name, block, room) ? printedBy(name, room) : "nothing: it does not compile";
            due(name + " prints", printed, many < shown.size() ? shown.get(many) : "");
            many++;
        }
        due("whole programs", many, shown.size());
        due("a whole program is there", many > 0, true);
    }

    private static boolean compiled(String name, String text, Path room) throws IOException {
        Path file = Files.writeString(room.resolve(name + ".java"), text);
        return ToolProvider.getSystemJavaCompiler().run(null, null, null, "-Xlint:all", "-Werror", "-d", room.toString(),
            "-cp", System.getProperty("java.class.path"), file.toString()) == 0;
    }

    private static void start(String name, Path room) throws Exception {
        try (URLClassLoader loader = new URLClassLoader(new URL[] {room.toUri().toURL()}, ReadmeTests.class.getClassLoader())) {
            loader.loadClass(name).getMethod("main", String[].class).invoke(null, (Object) new String[0]);
        }
    }

    private static String printedBy(String name, Path room) throws Exception {
        PrintStream out = System.out;
        ByteArrayOutputStream bytes = new ByteArrayOutputStream();
        System.setOut(new PrintStream(bytes, true));
        try {
            start(name, room);
        } finally {
            System.setOut(out);
        }
        return bytes.toString().replace("\r\n", "\n");
    }

    private static void removeAll(Path room) throws IOException {
        try (Stream<Path> all = Files.walk(room)) {
            for (Path p : all.sorted(Comparator.reverseOrder()).toList()) Files.delete(p);
        }
    }

    // ---- the run of calls, each with its answer behind it

    private static void run(String page, Path room) throws Exception {
        StringBuilder members = new StringBuilder();
        StringBuilder body = new StringBuilder();
        for (String block : blocks(page, "java")) {
            if (isProgram(block)) continue;
            if (block.startsWith("static ")) members.append(block);
            else for (String line : block.split("\n")) body.append(asked(line.strip()));
        }
        String text = "public final class ReadmeRun {\n" + members + "public static void main(String[] args) {\n" + body + "}\n}\n";
        int before = checks;
        boolean compiles = compiled("ReadmeRun", text, room);
        due("the calls compile", compiles, true);
        if (compiles) start("ReadmeRun", room);
        due("calls with answers", checks - before > 60, true);
    }

    /** A line with a call becomes that call and a question whether it answers what stands behind it. */
    private static String asked(String line) {
        if (line.isEmpty() || line.equals("HourHouse x = new HourHouse();")) return line + "\n";
        Matcher m = SHOWN.matcher(line);
        boolean shows = m.matches();
        due(line + " shows its answer", shows, true);
        if (!shows) return "";
        String want = Character.isUpperCase(m.group(4).charAt(0)) ? "HourHouse." + m.group(4) : m.group(4);
        String ahead = m.group(1) == null ? "" : m.group(1) + m.group(3) + ";\n";
        String got = m.group(1) == null ? m.group(3) : m.group(2);
        return ahead + "ReadmeTests.due(\"" + line.replace("\\", "\\\\").replace("\"", "\\\"") + "\", " + got + ", " + want + ");\n";
    }

    // ---- tables

    /** The cells of all rows of the page whose first cell is a code that begins so. */
    private static List<String[]> rows(String page, String first) {
        List<String[]> found = new ArrayList<>();
        for (String line : page.split("\n")) {
            if (line.matches("\\| `" + first + ".*\\|")) found.add(line.substring(1).split("\\|"));
        }
        return found;
    }

    private static void constants(String page) throws Exception {
        List<String> shown = new ArrayList<>();
        for (String[] row : rows(page, "[A-Z]")) shown.add(row[0].strip().replace("`", "") + " = " + row[1].strip());
        List<String> due = new ArrayList<>();
        for (Field f : HourHouse.class.getDeclaredFields()) {
            if (Modifier.isPublic(f.getModifiers())) due.add(f.getName() + " = " + f.getInt(null));
        }
        due("the constants", due, shown);
    }

    private static void calls(String page) throws IOException {
        String document = Files.exists(DOC) ? Files.readString(DOC) : null;
        List<String> shown = new ArrayList<>();
        for (String[] row : rows(page, "[a-z]\\w*\\(")) {
            String call = row[0].strip().replace("`", "");
            shown.add(call);
            if (document == null) continue;
            String refused = row.length > 2 ? row[2].strip().replace("`", "") : "";
            due(call + " is refused with", refusals(document, call.substring(0, call.indexOf('('))), refused);
        }
        List<String> due = new ArrayList<>();
        Matcher m = Pattern.compile("public int (\\w+)\\(([^)]*)\\)").matcher(Files.readString(SOURCE));
        while (m.find()) due.add(m.group(1) + "(" + m.group(2).replace("int ", "") + ")");
        due("the calls", due, shown);
    }

    /** The refusals that a promise names, in its order. */
    private static String refusals(String document, String call) {
        Matcher promise = Pattern.compile("^`int " + call + "\\([^`]*`: (.*)$", Pattern.MULTILINE).matcher(document);
        if (!promise.find()) return "no promise";
        Set<String> found = new LinkedHashSet<>();
        Matcher m = Pattern.compile("\\b(BAD|NO|FULL|SPENT|NOTHING|INDEX|SIZE)\\b").matcher(promise.group(1));
        while (m.find()) found.add(m.group());
        return String.join(" ", found);
    }

    // ---- files

    /** Each file that is named is there, and each test is named. */
    private static void files(String page) throws IOException {
        List<PathMatcher> named = new ArrayList<>();
        Matcher m = Pattern.compile("`(src/[^`]+|NOTES\\.md)`").matcher(page);
        while (m.find()) {
            PathMatcher one = FileSystems.getDefault().getPathMatcher("glob:" + m.group(1));
            named.add(one);
            try (Stream<Path> all = Files.walk(Path.of(""))) {
                due(m.group(1) + " is there", all.anyMatch(one::matches), true);
            }
        }
        try (Stream<Path> tests = Files.list(TESTS)) {
            for (Path test : tests.filter(p -> p.toString().endsWith("Tests.java")).toList()) {
                due(test + " is named", named.stream().anyMatch(p -> p.matches(test)), true);
            }
        }
        due(".ci/run can be run", Files.isExecutable(Path.of(".ci/run")), true);
    }
}
