import java.io.IOException;
import java.lang.reflect.Constructor;
import java.lang.reflect.Field;
import java.lang.reflect.Method;
import java.lang.reflect.Modifier;
import java.nio.charset.StandardCharsets;
import java.nio.file.Files;
import java.nio.file.Path;
import java.util.ArrayList;
import java.util.List;
import java.util.Set;
import java.util.TreeSet;
import java.util.regex.Matcher;
import java.util.regex.Pattern;

/** The face of the class, and what of LANGUAGE.md can be seen from its text and its members. */
public final class LanguageTest {
    private static final String SOURCE = "src/main/java/InkLake.java";
    private static final String FACE = "int all(int)|long ask()|int brief(int)|int brook(int,int)|int deed(int,int)|int dip(int,int)"
            + "|boolean end(int)|int fade(int)|int fault(int)|int feed(int,int,int,int,int)|int has(int)|int image()|int kept(int,int)"
            + "|int later(int,int)|int letter(int,int,int)|int miles(int)|int missed()|int octet(int)|boolean on()|int outflow(int)"
            + "|int outflows()|int pour(int)|boolean seed(int)|int seasons(int)|int share(int)|int shore()|int soonest(int)|int status(int)"
            + "|int thinned(int,int,int,int)|boolean undo()|int write(int)|int years(int)";

    public static void main(String[] args) throws IOException {
        face();
        members(InkLake.class, new TreeSet<>());
        classes();
        text();
        Check.finish();
    }

    private static String shape(Method m) {
        StringBuilder s = new StringBuilder(m.getReturnType().getSimpleName()).append(' ').append(m.getName()).append('(');
        for (Class<?> c : m.getParameterTypes()) {
            s.append(s.charAt(s.length() - 1) == '(' ? "" : ",").append(c.getSimpleName());
        }
        return s.append(')').toString();
    }

    private static void face() {
        Set<String> due = new TreeSet<>(List.of(FACE.split("\\|")));
        Set<String> got = new TreeSet<>();
        for (Method m : InkLake.class.getDeclaredMethods()) {
            if (Modifier.isPublic(m.getModifiers())) {
                got.add(shape(m));
                Check.no("static " + m.getName(), Modifier.isStatic(m.getModifiers()));
            } else {
                Check.yes("private " + m.getName(), Modifier.isPrivate(m.getModifiers()));
            }
        }
        Check.yes("the face: " + got, got.equals(due));
        Constructor<?>[] makers = InkLake.class.getDeclaredConstructors();
        Check.eq("constructors", makers.length, 1);
        Check.yes("public", Modifier.isPublic(makers[0].getModifiers()) && makers[0].getParameterCount() == 0);
        Check.yes("public final", Modifier.isPublic(InkLake.class.getModifiers()) && Modifier.isFinal(InkLake.class.getModifiers()));
        for (Field f : InkLake.class.getDeclaredFields()) {
            boolean open = f.getName().equals("NONE") || f.getName().equals("NOTHING");
            Check.eq("public " + f.getName(), Modifier.isPublic(f.getModifiers()) ? 1 : 0, open ? 1 : 0);
            Check.eq("private " + f.getName(), Modifier.isPrivate(f.getModifiers()) ? 1 : 0, open ? 0 : 1);
        }
    }

    private static void members(Class<?> c, Set<String> seen) {
        Set<String> open = new TreeSet<>();
        for (Method m : InkLake.class.getDeclaredMethods()) {
            if (Modifier.isPublic(m.getModifiers())) {
                open.add(m.getName());
            }
        }
        for (Method m : c.getDeclaredMethods()) {
            boolean own = c == InkLake.class && Modifier.isPublic(m.getModifiers());
            Check.yes("a public one's name: " + c.getSimpleName() + "." + m.getName(), own || !open.contains(m.getName()));
            Check.yes("parameters of " + m.getName(), m.getParameterCount() <= 7);
            Check.no("of every object: " + m.getName(), List.of("equals", "hashCode", "toString").contains(m.getName()));
        }
        int fields = 0;
        for (Field f : c.getDeclaredFields()) {
            if (Modifier.isStatic(f.getModifiers())) {
                Check.yes("a constant: " + f.getName(), Modifier.isFinal(f.getModifiers()));
            } else {
                fields++;
            }
        }
        Check.yes("fields of " + c.getSimpleName() + ": " + fields, fields <= 20);
        for (Class<?> inner : c.getDeclaredClasses()) {
            members(inner, seen);
        }
    }

    private static void classes() {
        Class<?>[] inner = InkLake.class.getDeclaredClasses();
        Check.yes("classes: " + inner.length, inner.length <= 11);
        for (Class<?> c : inner) {
            Check.yes("static " + c.getSimpleName(), Modifier.isStatic(c.getModifiers()));
            Check.no("open " + c.getSimpleName(), Modifier.isPublic(c.getModifiers()) || Modifier.isProtected(c.getModifiers()));
        }
    }

    private static void text() throws IOException {
        String whole = Files.readString(Path.of(SOURCE), StandardCharsets.ISO_8859_1);
        for (int k = 0; k < whole.length(); k++) {
            if (whole.charAt(k) > 126 || whole.charAt(k) == '\t') {
                Check.eq("a sign beyond 126 at " + k, whole.charAt(k), 0);
            }
        }
        String bare = whole.replaceAll("(?s)/\\*.*?\\*/", "").replaceAll("//[^\n]*", "").replaceAll("\"[^\"\n]*\"", "\"\"");
        String words = "throw|throws|try|catch|finally|synchronized|assert|import|package|native|volatile|transient|instanceof|var|record"
                + "|System\\.(?!arraycopy)\\w+|Thread|Object|\\w+Exact|Iterator|Random|Exception|Error";
        Matcher found = Pattern.compile("\\b(" + words + ")\\b|->|::|@").matcher(bare);
        while (found.find()) {
            Check.eq("not in the language: " + found.group(), 1, 0);
        }
        Check.no("texts joined by +", Pattern.compile("\"\\s*\\+|\\+\\s*\"").matcher(bare).find());
        for (int length : methodLengths(bare)) {
            Check.yes("a method of " + length + " lines", length <= 60);
        }
    }

    /** Lines of every block that stands behind a round bracket at the depth of a method. */
    private static List<Integer> methodLengths(String bare) {
        List<Integer> lengths = new ArrayList<>();
        String[] lines = bare.split("\n");
        Pattern head = Pattern.compile("^( {4}| {8})(?! )[^=]*\\(.*\\) \\{$");
        for (int k = 0; k < lines.length; k++) {
            Matcher m = head.matcher(lines[k]);
            if (m.find()) {
                int end = k;
                while (end < lines.length && !lines[end].equals(m.group(1) + "}")) {
                    end++;
                }
                lengths.add(end - k + 1);
            }
        }
        Check.yes("methods are found", lengths.size() > 60);
        return lengths;
    }
}
