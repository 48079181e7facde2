import java.io.IOException;
import java.lang.reflect.Constructor;
import java.lang.reflect.Field;
import java.lang.reflect.Method;
import java.lang.reflect.Modifier;
import java.nio.file.Files;
import java.nio.file.Path;
import java.util.Arrays;
import java.util.List;
import java.util.Set;
import java.util.TreeSet;
import java.util.regex.Matcher;
import java.util.regex.Pattern;
import java.util.stream.Collectors;

/** The public face, and those rules of LANGUAGE.md that can be seen without running anything. */
public final class FaceTest {
    private static final Path SOURCE = Path.of("src/main/java/ShrinkBench.java");
    /** Each method of the document with how many ints it takes. */
    private static final String METHODS = "about 2, at 1, attempt 1, called 1, change 4, code 4, covered 3, "
            + "cut 2, fault 3, feed 1, first 2, instruction 2, keep 1, least 2, merge 1, pool 2, register 1, "
            + "run 0, runs 0, status 0, told 1, turns 1, unseen 1, wipe 0";
    private static final Check check = new Check("FaceTest");

    public static void main(String[] args) throws IOException {
        constants();
        face();
        nested();
        source(Files.readString(SOURCE));
        check.end();
    }

    private static void constants() {
        check.due("NONE", ShrinkBench.NONE, -1);
        check.due("BAD", ShrinkBench.BAD, -2);
        check.due("STATE", ShrinkBench.STATE, -3);
        check.due("FULL", ShrinkBench.FULL, -4);
    }

    private static boolean isPrivate(int modifiers) {
        return Modifier.isPrivate(modifiers);
    }

    private static void face() {
        Class<?> c = ShrinkBench.class;
        check.holds("public and final", c.getModifiers() == (Modifier.PUBLIC | Modifier.FINAL));
        check.holds("without a package", c.getPackageName().isEmpty());
        check.holds("of no other class", c.getSuperclass() == Object.class && c.getInterfaces().length == 0);
        Set<String> methods = new TreeSet<>();
        for (Method m : c.getDeclaredMethods()) {
            if (!isPrivate(m.getModifiers())) {
                check.holds(m + " is public", m.getModifiers() == Modifier.PUBLIC);
                check.holds(m + " is of ints", m.getReturnType() == int.class
                        && Arrays.stream(m.getParameterTypes()).allMatch(p -> p == int.class));
                methods.add(m.getName() + " " + m.getParameterCount());
            }
        }
        check.holds("the methods are " + METHODS, String.join(", ", methods).equals(METHODS));
        Set<String> fields = new TreeSet<>();
        for (Field f : c.getDeclaredFields()) {
            if (!isPrivate(f.getModifiers())) {
                check.holds(f + " is a public constant",
                        f.getModifiers() == (Modifier.PUBLIC | Modifier.STATIC | Modifier.FINAL));
                fields.add(f.getName());
            }
        }
        check.holds("the constants", fields.equals(Set.of("NONE", "BAD", "STATE", "FULL")));
        Constructor<?>[] constructors = c.getDeclaredConstructors();
        check.due("constructors", constructors.length, 1);
        check.holds("a public one of nothing", constructors[0].getModifiers() == Modifier.PUBLIC
                && constructors[0].getParameterCount() == 0);
    }

    private static void nested() {
        Set<String> open = Arrays.stream(METHODS.split(", ")).map(m -> m.split(" ")[0]).collect(Collectors.toSet());
        List<Class<?>> all = new java.util.ArrayList<>(List.of(ShrinkBench.class.getDeclaredClasses()));
        for (Class<?> c : all) {
            check.holds(c + " is static", Modifier.isStatic(c.getModifiers()));
            check.holds(c + " is hidden", !Modifier.isPublic(c.getModifiers()) && !Modifier.isProtected(c.getModifiers()));
        }
        all.add(ShrinkBench.class);
        check.holds("at most twelve classes", all.size() <= 12);
        for (Class<?> c : all) {
            long own = 0;
            for (Field f : c.getDeclaredFields()) {
                boolean shared = Modifier.isStatic(f.getModifiers());
                own += shared ? 0 : 1;
                check.holds(f + " is final if it is static", !shared || Modifier.isFinal(f.getModifiers()));
            }
            check.holds(c + " has at most twenty fields", own <= 20);
            for (Method m : c.getDeclaredMethods()) {
                check.holds(m + " has at most seven parameters", m.getParameterCount() <= 7);
                check.holds(m + " has a name of its own",
                        Modifier.isPublic(m.getModifiers()) || !open.contains(m.getName()));
            }
        }
    }

    private static void source(String text) {
        String code = text.replaceAll("(?s)/\\*.*?\\*/", " ").replaceAll("//[^\n]*", " ");
        String[] banned = {
            "throw", "throws", "try", "catch", "finally", "synchronized", "assert", "package", "Object", "Exception",
            "Thread", "Random", "hashCode", "native", "volatile"};
        for (String word : banned) {
            check.holds("no " + word, !Pattern.compile("\\b" + word + "\\b").matcher(code).find());
        }
        check.holds("no lambda", !code.replaceAll("(case [^;{}]*?|default) ->", " ").contains("->"));
        check.holds("no method reference", !code.contains("::"));
        check.holds("no Exact function", !Pattern.compile("Exact\\s*\\(").matcher(code).find());
        Matcher imports = Pattern.compile("(?m)^import (.*);").matcher(code);
        while (imports.find()) {
            check.holds("import " + imports.group(1), imports.group(1).equals("java.util.Arrays"));
        }
        Matcher library = Pattern.compile("\\b(Arrays|Math|Integer|Long|System)\\.(\\w+)").matcher(code);
        Set<String> allowed = Set.of("Arrays.fill", "Math.max", "Integer.bitCount");
        while (library.find()) {
            check.holds(library.group() + " is of the library", allowed.contains(library.group()));
        }
    }
}
