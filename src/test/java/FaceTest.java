import java.lang.reflect.Constructor;
import java.lang.reflect.Field;
import java.lang.reflect.Member;
import java.lang.reflect.Method;
import java.lang.reflect.Modifier;
import java.nio.file.Files;
import java.nio.file.Path;
import java.util.ArrayList;
import java.util.Arrays;
import java.util.Collections;
import java.util.List;
import java.util.regex.Pattern;

/** The face as the document's code block has it, and what can be seen in the source of LANGUAGE.md's rules. */
final class FaceTest {
    private static final Check c = new Check();
    private static final String[] FACE = {
        "int count(int)", "int feed(int,int,int,int,int,int)", "int text()", "int force(int)",
        "int asks(int,int,int,int,int)", "int arm(int,int,int)", "int set(int,int,int)", "int told(int,int)",
        "int match(int,int,int)", "int wins(int,int,int)", "int fight(int,int)", "int rest(int)", "int best(int,int,int)",
        "int even(int,int)", "int line(int,int)", "int needs(int,int)", "int row(int,int,int)", "int beats(int)",
        "int rings(int)", "int judge(int,int,int)", "int left(int,int,int)", "int whom(int,int)", "int laws(int,int,int)",
        "int film(int,int,int)", "int drawn(int,int,int)", "long odds(int,int,int,int)", "int image()", "int back()",
        "int sheet(int,int,int)", "int cell(int,int,int)", "int copy(int,int,int,int,int)", "int armsBy(int,int,int,int)",
        "int taken(int,int)",
    };

    public static void main(String[] args) throws Exception {
        constants();
        methods();
        members();
        words(args[0]);
        c.end();
    }

    private static void constants() {
        c.promise(1, "the face");
        c.same("NONE", ArmAgainstArm.NONE, -1);
        c.same("BAD", ArmAgainstArm.BAD, -2);
        c.same("STATE", ArmAgainstArm.STATE, -3);
        c.same("FULL", ArmAgainstArm.FULL, -4);
        c.same("NO", ArmAgainstArm.NO, -4611686018427387904L);
        List<String> names = new ArrayList<>();
        for (Field f : ArmAgainstArm.class.getFields()) names.add(f.getType() + " " + f.getName());
        Collections.sort(names);
        c.that("constants " + names, names.equals(List.of("int BAD", "int FULL", "int NONE", "int STATE", "long NO")));
    }

    private static void methods() {
        List<String> due = new ArrayList<>(Arrays.asList(FACE)), got = new ArrayList<>();
        for (Method m : ArmAgainstArm.class.getDeclaredMethods()) {
            if (!Modifier.isPublic(m.getModifiers())) continue;
            StringBuilder row = new StringBuilder(m.getReturnType() + " " + m.getName() + "(");
            for (Class<?> p : m.getParameterTypes()) row.append(row.charAt(row.length() - 1) == '(' ? "" : ",").append(p);
            got.add(row + ")");
        }
        Collections.sort(due);
        Collections.sort(got);
        c.that("methods " + got, due.equals(got));
        c.same("constructors", ArmAgainstArm.class.getDeclaredConstructors().length, 1);
        for (Constructor<?> k : ArmAgainstArm.class.getDeclaredConstructors()) c.that("public", Modifier.isPublic(k.getModifiers()));
    }

    private static void members() {
        c.that("final", Modifier.isFinal(ArmAgainstArm.class.getModifiers()));
        List<Member> all = new ArrayList<>();
        all.addAll(Arrays.asList(ArmAgainstArm.class.getDeclaredMethods()));
        all.addAll(Arrays.asList(ArmAgainstArm.class.getDeclaredFields()));
        List<String> face = new ArrayList<>();
        for (Method m : ArmAgainstArm.class.getMethods()) face.add(m.getName());
        for (Member m : all) {
            int is = m.getModifiers();
            c.that(m.getName() + " is public or private", Modifier.isPublic(is) || Modifier.isPrivate(is));
            boolean method = m instanceof Method;
            c.that(m.getName() + " has no public one's name", Modifier.isPublic(is) || !method || !face.contains(m.getName()));
            c.that(m.getName() + " is final, if static", method || !Modifier.isStatic(is) || Modifier.isFinal(is));
        }
        Class<?>[] inside = ArmAgainstArm.class.getDeclaredClasses();
        c.that("twelve classes at most", inside.length < 12);
        for (Class<?> one : inside) {
            c.that(one + " is static", Modifier.isStatic(one.getModifiers()));
            c.that(one + " is not public", !Modifier.isPublic(one.getModifiers()) && !Modifier.isProtected(one.getModifiers()));
            for (Method m : one.getDeclaredMethods()) {
                c.that(m + " takes seven at most", m.getParameterCount() <= 7);
                c.that(m + " has no public one's name", !Arrays.toString(FACE).contains(" " + m.getName() + "("));
            }
        }
    }

    private static void words(String root) throws Exception {
        String source = Files.readString(Path.of(root, "src/main/java/ArmAgainstArm.java"));
        String bare = source.replaceAll("(?s)/\\*.*?\\*/", " ").replaceAll("//[^\n]*", " ").replaceAll("\"[^\"]*\"", "\"\"");
        String[] words = {
            "throw", "throws", "try", "catch", "finally", "synchronized", "assert", "import", "package", "equals",
            "hashCode", "toString", "System.currentTimeMillis", "System.nanoTime", "Random", "Thread",
        };
        for (String word : words) c.that("no " + word, !Pattern.compile("\\b" + Pattern.quote(word) + "\\b").matcher(bare).find());
        c.that("no lambda", !bare.contains("->"));
        c.that("no method reference", !bare.contains("::"));
        c.that("signs 1 to 127", source.chars().allMatch(v -> v < 128 && v > 0));
        c.same("made by constructors alone", bare.split("\\bnew\\b", -1).length - 1, madeInConstructors(bare));
    }

    /** How often 'new' stands in a field's row or in a constructor. */
    private static int madeInConstructors(String bare) {
        int found = 0;
        String method = "";
        for (String line : bare.split("\n")) {
            if (line.matches(" +(private |public |static |final )*[\\w\\[\\]]* ?\\w+\\(.*\\) \\{")) method = line.trim();
            boolean constructor = method.matches("(public )?[A-Z]\\w*\\(.*");
            boolean field = line.matches(" +(private |static |final )+[\\w\\[\\]]+ \\w+ = .*;");
            if (constructor || field) found += line.split("\\bnew\\b", -1).length - 1;
        }
        return found;
    }
}
