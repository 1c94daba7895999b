import java.io.PrintWriter;
import java.io.StringWriter;
import java.lang.reflect.Constructor;
import java.lang.reflect.Field;
import java.lang.reflect.Member;
import java.lang.reflect.Method;
import java.lang.reflect.Modifier;
import java.nio.file.Files;
import java.nio.file.Path;
import java.util.ArrayList;
import java.util.Arrays;
import java.util.Collections;
import java.util.HashMap;
import java.util.HashSet;
import java.util.List;
import java.util.Map;
import java.util.Set;
import java.util.regex.Matcher;
import java.util.regex.Pattern;
import java.util.spi.ToolProvider;

/** The face as the document's code block has it, and what can be seen in the source of LANGUAGE.md's rules. */
final class FaceTest {
    private static final Check c = new Check();
    private static final String[] FACE = {
        "int count(int)", "int feed(int,int,int,int,int,int)", "int text()", "int force(int)",
        "int asks(int,int,int,int,int)", "int arm(int,int,int)", "int set(int,int,int)", "int told(int,int)",
        "int match(int,int,int)", "int wins(int,int,int)", "int fight(int,int)", "int rest(int)", "int best(int,int,int)",
        "int even(int,int)", "int line(int,int)", "int needs(int,int)", "int row(int,int,int)", "int beats(int)",
        "int rings(int)", "int judge(int,int,int)", "int left(int,int,int)", "int whom(int,int)", "int laws(int,int,int)",
        "int film(int,int,int)", "int drawn(int,int,int)", "long odds(int,int,int,int)", "int image()", "int back()",
        "int sheet(int,int,int)", "int cell(int,int,int)", "int copy(int,int,int,int,int)", "int armsBy(int,int,int,int)",
        "int taken(int,int)",
    };

    public static void main(String[] args) throws Exception {
        constants();
        methods();
        members();
        fields();
        words(args[0]);
        library(args[0]);
        methodLengths(args[0]);
        depth();
        c.end();
    }

    private static void constants() {
        c.promise(1, "the face");
        c.same("NONE", ArmAgainstArm.NONE, -1);
        c.same("BAD", ArmAgainstArm.BAD, -2);
        c.same("STATE", ArmAgainstArm.STATE, -3);
        c.same("FULL", ArmAgainstArm.FULL, -4);
        c.same("NO", ArmAgainstArm.NO, -4611686018427387904L);
        List<String> names = new ArrayList<>();
        for (Field f : ArmAgainstArm.class.getFields()) names.add(f.getType() + " " + f.getName());
        Collections.sort(names);
        c.that("constants " + names, names.equals(List.of("int BAD", "int FULL", "int NONE", "int STATE", "long NO")));
    }

    private static void methods() {
        List<String> due = new ArrayList<>(Arrays.asList(FACE)), got = new ArrayList<>();
        for (Method m : ArmAgainstArm.class.getDeclaredMethods()) {
            if (!Modifier.isPublic(m.getModifiers())) continue;
            StringBuilder row = new StringBuilder(m.getReturnType() + " " + m.getName() + "(");
            for (Class<?> p : m.getParameterTypes()) row.append(row.charAt(row.length() - 1) == '(' ? "" : ",").append(p);
            got.add(row + ")");
        }
        Collections.sort(due);
        Collections.sort(got);
        c.that("methods " + got, due.equals(got));
        c.same("constructors", ArmAgainstArm.class.getDeclaredConstructors().length, 1);
        for (Constructor<?> k : ArmAgainstArm.class.getDeclaredConstructors()) c.that("public", Modifier.isPublic(k.getModifiers()));
    }

    private static void members() {
        c.that("final", Modifier.isFinal(ArmAgainstArm.class.getModifiers()));
        List<Member> all = new ArrayList<>();
        all.addAll(Arrays.asList(ArmAgainstArm.class.getDeclaredMethods()));
        all.addAll(Arrays.asList(ArmAgainstArm.class.getDeclaredFields()));
        List<String> face = new ArrayList<>();
        for (Method m : ArmAgainstArm.class.getMethods()) face.add(m.getName());
        for (Member m : all) {
            int is = m.getModifiers();
            c.that(m.getName() + " is public or private", Modifier.isPublic(is) || Modifier.isPrivate(is));
            boolean method = m instanceof Method;
            c.that(m.getName() + " has no public one's name", Modifier.isPublic(is) || !method || !face.contains(m.getName()));
            c.that(m.getName() + " is final, if static", method || !Modifier.isStatic(is) || Modifier.isFinal(is));
        }
        Class<?>[] inside = ArmAgainstArm.class.getDeclaredClasses();
        c.that("twelve classes at most", inside.length < 12);
        for (Class<?> one : inside) {
            c.that(one + " is static", Modifier.isStatic(one.getModifiers()));
            c.that(one + " is not public", !Modifier.isPublic(one.getModifiers()) && !Modifier.isProtected(one.getModifiers()));
            for (Method m : one.getDeclaredMethods()) {
                c.that(m + " takes seven at most", m.getParameterCount() <= 7);
                c.that(m + " has no public one's name", !Arrays.toString(FACE).contains(" " + m.getName() + "("));
            }
        }
    }

    private static void words(String root) throws Exception {
        String source = Files.readString(Path.of(root, "src/main/java/ArmAgainstArm.java"));
        String bare = bare(root);
        String[] words = {
            "throw", "throws", "try", "catch", "finally", "synchronized", "assert", "import", "package", "equals",
            "hashCode", "toString", "System.currentTimeMillis", "System.nanoTime", "Random", "Thread",
        };
        for (String word : words) c.that("no " + word, !Pattern.compile("\\b" + Pattern.quote(word) + "\\b").matcher(bare).find());
        c.that("no lambda", !bare.contains("->"));
        c.that("no method reference", !bare.contains("::"));
        c.that("signs 1 to 127", source.chars().allMatch(v -> v < 128 && v > 0));
        c.same("made by constructors alone", bare.split("\\bnew\\b", -1).length - 1, madeInConstructors(bare));
    }

    /** How often 'new' stands in a field's row or in a constructor. */
    private static int madeInConstructors(String bare) {
        int found = 0;
        String method = "";
        for (String line : bare.split("\n")) {
            if (line.matches(" +(private |public |static |final )*[\\w\\[\\]]* ?\\w+\\(.*\\) \\{")) method = line.trim();
            boolean constructor = method.matches("(public )?[A-Z]\\w*\\(.*");
            boolean field = line.matches(" +(private |static |final )+[\\w\\[\\]]+ \\w+ = .*;");
            if (constructor || field) found += line.split("\\bnew\\b", -1).length - 1;
        }
        return found;
    }

    private static String bare(String root) throws Exception {
        String source = Files.readString(Path.of(root, "src/main/java/ArmAgainstArm.java"));
        return source.replaceAll("(?s)/\\*.*?\\*/", " ").replaceAll("//[^\n]*", " ").replaceAll("\"[^\"]*\"", "\"\"");
    }

    /** Rules 5 and 11: static fields are final and of the sorts told; a class has some twenty others. */
    private static void fields() {
        List<String> sorts = List.of("int", "long", "boolean", "char", "class java.lang.String", "class [I", "class [J", "class [C", "class [B");
        List<Class<?>> all = new ArrayList<>(Arrays.asList(ArmAgainstArm.class.getDeclaredClasses()));
        all.add(ArmAgainstArm.class);
        for (Class<?> one : all) {
            int own = 0;
            for (Field f : one.getDeclaredFields()) {
                if (!Modifier.isStatic(f.getModifiers())) own++;
                else c.that(f + " is a constant", Modifier.isFinal(f.getModifiers()) && sorts.contains(f.getType().toString()));
            }
            c.that(one + " has twenty fields at most", own <= 20);
        }
    }

    /** Rule 4: of the library's classes only what the file needs, all of which the rule lists. */
    private static void library(String root) throws Exception {
        List<String> used = List.of("Math.max", "Math.min", "Integer.bitCount", "System.arraycopy");
        Matcher m = Pattern.compile("\\b(Math|Integer|Long|System|Arrays|List|ArrayList|Character|Objects|String)\\.\\w+").matcher(bare(root));
        while (m.find()) c.that(m.group() + " is listed", used.contains(m.group()));
        c.that("no for over a list", !Pattern.compile("for \\([\\w\\[\\]]+ \\w+ :").matcher(bare(root)).find());
        c.that("no while without a bound", !Pattern.compile("\\bwhile\\b").matcher(bare(root)).find());
        c.that("no double or float", !Pattern.compile("\\b(double|float)\\b").matcher(bare(root)).find());
    }

    /** Rule 11: a method has sixty lines at most. */
    private static void methodLengths(String root) throws Exception {
        int from = -1, at = 0;
        String name = "";
        for (String line : bare(root).split("\n")) {
            at++;
            if (line.matches(" +[\\w\\[\\] ]*\\w+\\([^;]*\\) \\{") && !line.matches(" +(if|for|while|switch|else)\\b.*")) {
                from = at;
                name = line.trim();
            }
            if (from >= 0 && line.matches(" {4}\\}| {8}\\}")) {
                c.that(name + " is short", at - from < 60);
                from = -1;
            }
        }
    }

    /** Rule 11: calls that are no recursion go eight deep at most. */
    private static void depth() {
        if (ToolProvider.findFirst("javap").isEmpty()) {
            System.out.println("no javap here: how deep calls go was not looked at");
            return;
        }
        Map<String, Set<String>> calls = calls();
        c.that("calls are found", calls.size() > 100);
        int deepest = 0;
        for (String method : calls.keySet()) deepest = Math.max(deepest, deep(calls, method, new ArrayList<>()));
        c.that("deepest " + deepest, deepest <= 8);
    }

    /** How deep calls go from a method on, one that stands open already (a recursion) counted once. */
    private static int deep(Map<String, Set<String>> calls, String method, List<String> open) {
        if (open.contains(method)) return 0;
        open.add(method);
        int most = 0;
        for (String further : calls.getOrDefault(method, Set.of())) {
            if (!reaches(calls, further, method, new HashSet<>())) most = Math.max(most, deep(calls, further, open));
        }
        // Those that call one another count as one, with what the deepest of them calls.
        for (String further : calls.getOrDefault(method, Set.of())) {
            if (!further.equals(method) && reaches(calls, further, method, new HashSet<>())) most = Math.max(most, deep(calls, further, open) - 1);
        }
        open.remove(method);
        return 1 + most;
    }

    private static boolean reaches(Map<String, Set<String>> calls, String from, String to, Set<String> been) {
        if (from.equals(to)) return true;
        if (!been.add(from)) return false;
        for (String further : calls.getOrDefault(from, Set.of())) if (reaches(calls, further, to, been)) return true;
        return false;
    }

    /** Which methods of the file each one calls, as javap tells. */
    private static Map<String, Set<String>> calls() {
        StringWriter told = new StringWriter();
        List<String> args = new ArrayList<>(List.of("-c", "-p", "-cp", System.getProperty("java.class.path"), "ArmAgainstArm"));
        for (Class<?> one : ArmAgainstArm.class.getDeclaredClasses()) args.add(one.getName());
        ToolProvider.findFirst("javap").orElseThrow().run(new PrintWriter(told), new PrintWriter(told), args.toArray(new String[0]));
        Map<String, Set<String>> calls = new HashMap<>();
        String in = "", method = "";
        for (String line : told.toString().split("\n")) {
            Matcher head = Pattern.compile(".*\\bclass (\\S+) .*\\{").matcher(line);
            Matcher own = Pattern.compile("  (?:.* )?([\\w$]+)\\(.*\\);").matcher(line);
            Matcher call = Pattern.compile(".*// Method (?:(ArmAgainstArm[\\w$]*)\\.)?\"?([\\w<>]+)\"?:.*").matcher(line);
            if (head.matches()) {
                in = head.group(1);
            } else if (own.matches()) {
                method = in + "." + (own.group(1).equals(in) ? "<init>" : own.group(1));
                calls.put(method, new HashSet<>());
            } else if (call.matches() && calls.containsKey(method)) {
                calls.get(method).add((call.group(1) == null ? in : call.group(1)) + "." + call.group(2));
            }
        }
        return calls;
    }
}
