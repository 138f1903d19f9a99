import java.io.IOException;
import java.lang.reflect.InvocationTargetException;
import java.lang.reflect.Method;
import java.lang.reflect.Modifier;
import java.net.URL;
import java.net.URLClassLoader;
import java.nio.charset.StandardCharsets;
import java.nio.file.DirectoryStream;
import java.nio.file.Files;
import java.nio.file.Path;
import java.util.ArrayList;
import java.util.Comparator;
import java.util.List;
import java.util.Set;
import java.util.TreeSet;
import java.util.regex.Matcher;
import java.util.regex.Pattern;
import java.util.stream.Stream;

/** What README.md says, tried: its Java lines are built and run, its tables are compared with the class. */
public final class ReadmeTest {
    private static final Pattern ANSWER = Pattern.compile("^(\\s*)(\\S.*\\));\\s*// (NONE|NOTHING|true|false|-?\\d+)\\b.*$");
    private static final Pattern CALL = Pattern.compile("`(\\w+)\\(([a-z, ]*)\\)`");

    public static void main(String[] args) throws Exception {
        String page = Files.readString(Path.of("README.md"), StandardCharsets.US_ASCII);
        linesOfJava(page);
        linesOfShell(page);
        calls(page);
        refusals(page);
        faults(page);
        testsOfTheProject(page);
        filesThatAreNamed(page);
        Check.finish();
    }

    private static List<String> blocks(String page, String language) {
        List<String> blocks = new ArrayList<>();
        Matcher m = Pattern.compile("(?s)```" + language + "\n(.*?)```").matcher(page);
        while (m.find()) {
            blocks.add(m.group(1));
        }
        return blocks;
    }

    /** A line that ends with an answer becomes a check of it. */
    private static String checked(String line) {
        Matcher m = ANSWER.matcher(line);
        if (!m.matches()) {
            return line;
        }
        String due = m.group(3);
        String told = "\"README: " + m.group(2).replace("\"", "'") + "\"";
        if (due.equals("true") || due.equals("false")) {
            return m.group(1) + "ReadmeTest.due(" + told + ", " + m.group(2) + " ? 1 : 0, " + (due.equals("true") ? 1 : 0) + ");";
        }
        String number = due.startsWith("N") ? "InkLake." + due : due + "L";
        return m.group(1) + "ReadmeTest.due(" + told + ", " + m.group(2) + ", " + number + ");";
    }

    /** What the page's program calls: a class loader of its own can't see Check. */
    public static void due(String what, long got, long due) {
        Check.eq(what, got, due);
    }

    private static void linesOfJava(String page) throws Exception {
        StringBuilder members = new StringBuilder();
        StringBuilder body = new StringBuilder();
        int checks = 0;
        for (String block : blocks(page, "java")) {
            for (String line : block.split("\n")) {
                String made = checked(line);
                checks += made.equals(line) ? 0 : 1;
                Check.yes("README: a call with its answer: " + line, !made.equals(line) || !line.matches("[xy]\\.\\w+\\(.*//.*"));
                (block.startsWith("static") ? members : body).append(made).append('\n');
            }
        }
        Check.yes("README: its answers: " + checks, checks >= 50);
        run("public final class Page {\n" + members + "public static void run() {\n" + body + "}\n}\n");
    }

    private static void run(String program) throws Exception {
        Path made = Files.createTempDirectory("readme");
        try {
            Path source = made.resolve("Page.java");
            Files.writeString(source, program, StandardCharsets.US_ASCII);
            String classes = System.getProperty("java.class.path");
            Check.eq("README: its Java lines build", ended("javac", "--release", "17", "-cp", classes, "-d", made.toString(),
                    source.toString()), 0);
            try (URLClassLoader loader = new URLClassLoader(new URL[] {made.toUri().toURL()}, ReadmeTest.class.getClassLoader())) {
                loader.loadClass("Page").getMethod("run").invoke(null);
            } catch (ClassNotFoundException | InvocationTargetException e) {
                Check.eq("README: its Java lines run: " + e + " " + e.getCause(), 1, 0);
            }
        } finally {
            remove(made);
        }
    }

    /** Each line but .ci/run, which runs this test; what they build in out/ is built elsewhere. */
    private static void linesOfShell(String page) throws Exception {
        Path made = Files.createTempDirectory("readme");
        int run = 0;
        try {
            for (String block : blocks(page, "sh")) {
                for (String line : block.split("\n")) {
                    if (!line.equals("bash .ci/run")) {
                        Check.eq("README: " + line, ended("sh", "-c", line.replace(" out/", " " + made + "/")), 0);
                        run++;
                    }
                }
            }
        } finally {
            remove(made);
        }
        Check.eq("README: its shell lines", run, 5);
    }

    private static int ended(String... command) throws Exception {
        return new ProcessBuilder(command).redirectErrorStream(true).redirectOutput(ProcessBuilder.Redirect.DISCARD).start().waitFor();
    }

    private static void remove(Path made) throws IOException {
        try (Stream<Path> all = Files.walk(made)) {
            for (Path p : all.sorted(Comparator.reverseOrder()).toList()) {
                Files.delete(p);
            }
        }
    }

    /** The rows of the table whose head begins so, each with its cells. */
    private static List<String[]> rows(String page, String head) {
        List<String[]> rows = new ArrayList<>();
        int from = page.indexOf("\n| " + head + " |");
        Check.yes("README: a table of " + head, from >= 0);
        String[] lines = page.substring(Math.max(0, from) + 1).split("\n");
        for (int k = 2; k < lines.length && lines[k].startsWith("| "); k++) {
            rows.add(lines[k].substring(2, lines[k].length() - 2).split(" \\| "));
        }
        Check.yes("README: rows of " + head, rows.size() > 0);
        return rows;
    }

    /** Each public method has a row, by its name and as many arguments as it takes; there is no other row. */
    private static void calls(String page) {
        Set<String> due = new TreeSet<>();
        for (Method m : InkLake.class.getDeclaredMethods()) {
            if (Modifier.isPublic(m.getModifiers())) {
                due.add(m.getName() + " " + m.getParameterCount());
            }
        }
        Set<String> told = new TreeSet<>();
        for (String[] row : rows(page, "call")) {
            told.add(shape(row[0]));
        }
        Check.yes("README: the calls " + told, told.equals(due));
        Matcher m = CALL.matcher(page);
        while (m.find()) {
            String shape = shape(m.group());
            Check.yes("README: a call of the class: " + m.group(), due.contains(shape));
        }
    }

    private static String shape(String call) {
        Matcher m = CALL.matcher(call);
        Check.yes("README: a call: " + call, m.matches());
        return m.group(1) + " " + (m.group(2).isEmpty() ? 0 : m.group(2).split(",").length);
    }

    /** On a new object each call of the table of refused ones is refused, and counted in its row. */
    private static void refusals(String page) {
        Set<String> told = new TreeSet<>();
        for (String[] row : rows(page, "`status`")) {
            int group = Integer.parseInt(row[0]);
            String name = shape(row[1]).split(" ")[0];
            InkLake x = new InkLake();
            Check.eq("README: refused: " + row[1], refused(x, name), name.matches("end|undo|seed|on") ? 0 : InkLake.NONE);
            for (int what = 0; what < 6; what++) {
                Check.eq("README: counted: " + row[1], x.status(what), what == group ? 1 : 0);
            }
            told.add(name);
        }
        Check.eq("README: calls that can be refused", told.size(), 11);
    }

    private static int refused(InkLake x, String name) {
        switch (name) {
            case "feed": return feedBeyond(x);
            case "end": return x.end(1) ? 1 : 0;
            case "shore": return x.shore();
            case "outflows": return x.outflows();
            case "write": return x.write(0);
            case "pour": return x.pour(1);
            case "seasons": return x.seasons(1);
            case "years": return x.years(1);
            case "undo": return x.undo() ? 1 : 0;
            case "seed": return x.seed(-1) ? 1 : 0;
            case "on": return x.on() ? 1 : 0;
            default: return 2;
        }
    }

    private static int feedBeyond(InkLake x) {
        for (int k = 0; k < 80; k++) {
            x.feed(0, 0, 0, 0, 0);
        }
        return x.feed(0, 0, 0, 0, 0);
    }

    private static void faults(String page) {
        int next = 1;
        for (String[] row : rows(page, "`fault(0)`")) {
            InkLake x = new InkLake();
            Check.eq("README: a FAULT's number", Integer.parseInt(row[0]), next);
            Check.eq("README: no SHORE: " + row[2], Lakes.shore(x, row[2].replace("`", "")), InkLake.NONE);
            Check.eq("README: its FAULT: " + row[2], x.fault(0), next);
            Check.eq("README: its place: " + row[2], x.fault(1), Integer.parseInt(row[3]));
            next++;
        }
        Check.eq("README: five FAULTS", next, 6);
    }

    private static void testsOfTheProject(String page) throws IOException {
        Set<String> due = new TreeSet<>();
        try (DirectoryStream<Path> there = Files.newDirectoryStream(Path.of("src/test/java"), "*Test.java")) {
            for (Path p : there) {
                due.add(p.getFileName().toString().replace(".java", ""));
            }
        }
        Set<String> told = new TreeSet<>();
        Matcher m = Pattern.compile("`(\\w+Test)`").matcher(page.substring(page.indexOf("\n- `")));
        while (m.find()) {
            told.add(m.group(1));
        }
        Check.yes("README: the tests " + told, told.equals(due));
        Matcher run = Pattern.compile("java -cp out/own (\\w+)").matcher(page);
        Check.yes("README: a test by itself", run.find() && due.contains(run.group(1)));
    }

    private static void filesThatAreNamed(String page) {
        Matcher m = Pattern.compile("(?<![\\w/.])(?:\\.\\./shared|src|\\.ci)/[\\w./]*\\w(?![\\w*/])|\\b[A-Z]+\\.md\\b").matcher(page);
        int found = 0;
        while (m.find()) {
            String name = m.group();
            boolean there = Files.exists(Path.of(name)) || Files.exists(Path.of("../shared").resolve(name));
            Check.yes("README: a file that is there: " + name, there);
            found++;
        }
        Check.yes("README: files are named", found >= 8);
    }
}
