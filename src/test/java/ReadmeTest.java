import java.io.PrintWriter;
import java.io.StringWriter;
import java.lang.reflect.Method;
import java.lang.reflect.Modifier;
import java.net.URL;
import java.net.URLClassLoader;
import java.nio.file.Files;
import java.nio.file.Path;
import java.util.ArrayList;
import java.util.Comparator;
import java.util.List;
import java.util.regex.Matcher;
import java.util.regex.Pattern;
import java.util.spi.ToolProvider;
import java.util.stream.Stream;

/** What README.md shows: its rows of calls are run, and each "// N" behind a call is what it answers. */
final class ReadmeTest {
    private static final Check c = new Check();
    private static final Pattern SHOWN = Pattern.compile("(\\w+\\.\\w+\\(.*\\)); +// (-?\\d+)(:.*)?");

    public static void main(String[] args) throws Exception {
        Path root = Path.of(args.length > 0 ? args[0] : ".");
        String page = Files.readString(root.resolve("README.md"));
        rows(page);
        names(page, root);
        promises(root);
        c.end();
    }

    // ---- the rows of calls

    private static void rows(String page) throws Exception {
        if (ToolProvider.findFirst("javac").isEmpty()) {
            System.out.println("no javac here: the rows of calls were not run");
            return;
        }
        c.terms("README.md's rows of calls");
        List<String> calls = new ArrayList<>();
        List<Long> due = new ArrayList<>();
        long[] got = run(javaOf(page, calls, due), calls.size());
        c.that("there are rows", calls.size() > 20);
        c.that("they compile and run", got != null);
        for (int i = 0; got != null && i < got.length; i++) c.same(calls.get(i), got[i], due.get(i));
    }

    /** The page's Java, each call with an answer behind it keeping what it answered. */
    private static String javaOf(String page, List<String> calls, List<Long> due) {
        StringBuilder s = new StringBuilder("public final class Rows { public static void fill(long[] got) {\n");
        Matcher block = Pattern.compile("(?s)```java\n(.*?)```").matcher(page);
        while (block.find()) {
            for (String line : block.group(1).split("\n")) {
                Matcher m = SHOWN.matcher(line);
                if (m.matches()) {
                    s.append("got[").append(calls.size()).append("] = ").append(m.group(1)).append(";\n");
                    calls.add(m.group(1));
                    due.add(Long.parseLong(m.group(2)));
                } else {
                    s.append(line).append('\n');
                }
            }
        }
        return s.append("} }\n").toString();
    }

    /** What the rows answered; null, if they don't compile. */
    private static long[] run(String source, int size) throws Exception {
        Path at = Files.createTempDirectory("readme");
        try {
            Path file = Files.writeString(at.resolve("Rows.java"), source);
            StringWriter said = new StringWriter();
            PrintWriter out = new PrintWriter(said);
            String classes = System.getProperty("java.class.path");
            int code = ToolProvider.findFirst("javac").orElseThrow()
                .run(out, out, "-cp", classes, "-d", at.toString(), file.toString());
            out.flush();
            if (code != 0) System.out.println(said);
            if (code != 0) return null;
            long[] got = new long[size];
            try (URLClassLoader loader = new URLClassLoader(new URL[] {at.toUri().toURL()})) {
                loader.loadClass("Rows").getMethod("fill", long[].class).invoke(null, (Object) got);
            }
            return got;
        } finally {
            remove(at);
        }
    }

    private static void remove(Path at) throws Exception {
        try (Stream<Path> all = Files.walk(at)) {
            for (Path one : all.sorted(Comparator.reverseOrder()).toList()) Files.delete(one);
        }
    }

    // ---- what it names

    private static void names(String page, Path root) throws Exception {
        c.terms("README.md names each call and each test");
        for (Method m : ArmAgainstArm.class.getDeclaredMethods()) {
            if (Modifier.isPublic(m.getModifiers())) c.that(m.getName(), page.contains("`" + m.getName() + "`"));
        }
        for (Path test : tests(root)) {
            String name = test.getFileName().toString().replace(".java", "");
            c.that(name, page.contains("`" + name + "`"));
        }
    }

    private static void promises(Path root) throws Exception {
        c.terms("the tests name each promise");
        StringBuilder all = new StringBuilder();
        for (Path test : tests(root)) all.append(Files.readString(test));
        for (int n = 1; n <= 34; n++) c.that("promise " + n, all.indexOf("c.promise(" + n + ",") >= 0);
    }

    private static List<Path> tests(Path root) throws Exception {
        try (Stream<Path> all = Files.list(root.resolve("src/test/java"))) {
            return all.filter(p -> p.toString().endsWith("Test.java")).sorted().toList();
        }
    }
}
