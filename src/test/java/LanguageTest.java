import java.io.IOException;
import java.lang.reflect.Constructor;
import java.lang.reflect.Executable;
import java.lang.reflect.Field;
import java.lang.reflect.Method;
import java.lang.reflect.Modifier;
import java.nio.file.Files;
import java.nio.file.Path;
import java.util.ArrayList;
import java.util.List;
import java.util.Map;
import java.util.Set;
import java.util.TreeMap;
import java.util.TreeSet;
import java.util.regex.Matcher;
import java.util.regex.Pattern;

/** The face that the document has, and those rules of LANGUAGE.md that can be seen by a test. */
public final class LanguageTest {
    private static final Check CHECK = new Check();
    private static final Path SOURCE = Path.of("src/main/java/ShowsWhereNobodyIs.java");
    private static final String[] FORBIDDEN = {"throw", "throws", "try", "catch", "synchronized",
        "assert", "import", "package", "native", "volatile", "double", "float", "protected",
        "Object", "String\\.format", "hashCode", "toString", "getClass", "\\w+Exact", "->", "::", "@"};
    private static final Set<String> CALLED = Set.of("Integer.bitCount", "Math.min", "Math.max",
        "System.arraycopy");

    public static void main(String[] args) throws IOException {
        String source = Files.readString(SOURCE);
        face();
        members();
        words(withoutComments(source));
        loops(withoutComments(source));
        lengths(source);
        depth(withoutComments(source));
        CHECK.end();
    }

    /** Rule 1: the document's face, sign by sign, and no other. */
    private static void face() throws IOException {
        String shared = System.getProperty("shared", "../shared");
        String doc = Files.readString(Path.of(shared, "DOC.md"));
        int from = doc.indexOf("```java");
        String face = doc.substring(from, doc.indexOf("```", from + 7));
        Set<String> want = new TreeSet<>();
        Matcher m = Pattern.compile("public ((?:int|long) \\w+\\(.*\\));").matcher(face);
        while (m.find()) {
            want.add(m.group(1).replaceAll(" \\w+([,)])", "$1"));
        }
        Set<String> got = new TreeSet<>();
        for (Method each : ShowsWhereNobodyIs.class.getDeclaredMethods()) {
            if (Modifier.isPublic(each.getModifiers())) {
                got.add(signature(each));
            }
        }
        CHECK.due("how many methods the document has", want.size(), 56);
        CHECK.due("methods as the document has them: " + got + " " + want, got.equals(want) ? 1 : 0, 1);
        CHECK.due("NONE", ShowsWhereNobodyIs.NONE, -1);
    }

    private static String signature(Method method) {
        List<String> types = new ArrayList<>();
        for (Class<?> type : method.getParameterTypes()) {
            types.add(type.getSimpleName());
        }
        return method.getReturnType() + " " + method.getName() + "(" + String.join(", ", types) + ")";
    }

    private static void is(String what, boolean holds) {
        CHECK.due(what, holds ? 1 : 0, 1);
    }

    /** Rules 1, 2, 5 and 11: members, classes inside, static fields, parameters, counts. */
    private static void members() {
        Class<?> outer = ShowsWhereNobodyIs.class;
        is("public and final", outer.getModifiers() == (Modifier.PUBLIC | Modifier.FINAL));
        Set<String> open = new TreeSet<>();
        for (Method m : outer.getDeclaredMethods()) {
            is(m + " is public or private", isPublicOrPrivate(m.getModifiers()));
            if (Modifier.isPublic(m.getModifiers())) {
                is(m + " has its name alone", open.add(m.getName()));
            }
        }
        for (Field f : outer.getDeclaredFields()) {
            is(f + " is private, or NONE", Modifier.isPrivate(f.getModifiers()) || f.getName().equals("NONE"));
        }
        for (Constructor<?> c : outer.getDeclaredConstructors()) {
            is("the constructor", c.getParameterCount() == 0 && Modifier.isPublic(c.getModifiers()));
        }
        is("twelve classes at most", outer.getDeclaredClasses().length < 12);
        oneClass(outer, open);
        for (Class<?> inside : outer.getDeclaredClasses()) {
            is(inside + " is static", Modifier.isStatic(inside.getModifiers()));
            is(inside + " isn't public", !Modifier.isPublic(inside.getModifiers()));
            is(inside + " has none inside", inside.getDeclaredClasses().length == 0);
            oneClass(inside, open);
        }
    }

    private static boolean isPublicOrPrivate(int modifiers) {
        return Modifier.isPublic(modifiers) || Modifier.isPrivate(modifiers);
    }

    private static void oneClass(Class<?> some, Set<String> open) {
        int fields = 0;
        for (Field f : some.getDeclaredFields()) {
            if (Modifier.isStatic(f.getModifiers())) {
                is(f + " is a constant", Modifier.isFinal(f.getModifiers()) && f.getType() == int.class);
            } else {
                fields++;
            }
        }
        is(some + " has twenty fields at most", fields <= 20);
        List<Executable> all = new ArrayList<>(List.of(some.getDeclaredMethods()));
        all.addAll(List.of(some.getDeclaredConstructors()));
        for (Executable e : all) {
            is(e + " has seven parameters at most", e.getParameterCount() <= 7);
        }
        for (Method m : some.getDeclaredMethods()) {
            boolean isFace = Modifier.isPublic(m.getModifiers());
            is(m + " bears no public one's name", isFace || !open.contains(m.getName()));
        }
    }

    private static String withoutComments(String source) {
        return source.replaceAll("(?s)/\\*.*?\\*/", "").replaceAll("//[^\n]*", "");
    }

    /** Rules 3, 4, 6 and 13: words that may not stand in the program, and what of the library may. */
    private static void words(String code) {
        for (String word : FORBIDDEN) {
            String boundary = Character.isLetter(word.charAt(0)) ? "\\b" : "";
            Matcher m = Pattern.compile(boundary + word + boundary).matcher(code);
            is("no " + word, !m.find());
        }
        Matcher m = Pattern.compile("\\b([A-Z]\\w*)\\.([a-z]\\w*)").matcher(code);
        while (m.find()) {
            is(m.group() + " is of the library that may be used", CALLED.contains(m.group()));
        }
        is("signs of 1 to 127", code.chars().allMatch(c -> c < 128));
    }

    /** Rule 9: no loop without an end. */
    private static void loops(String code) {
        is("no while (true)", !Pattern.compile("while\\s*\\(\\s*true").matcher(code).find());
        is("no for (;;)", !Pattern.compile("for\\s*\\([^;]*;\\s*;").matcher(code).find());
    }

    /** Rule 11: methods of some sixty lines at most. */
    private static void lengths(String source) {
        String[] lines = source.split("\n");
        int start = -1;
        String indent = "";
        for (int i = 0; i < lines.length; i++) {
            if (start < 0 && lines[i].matches(" {4,8}[\\w\\[\\]<> ]+\\(.*\\) \\{")) {
                start = i;
                indent = lines[i].replaceAll("\\S.*", "");
            } else if (start >= 0 && lines[i].equals(indent + "}")) {
                is("a method of sixty lines at most at line " + (start + 1), i - start < 60);
                start = -1;
            }
        }
        is("methods were seen to their end", start < 0);
    }

    /** Rules 8 and 11: no recursion here, and calls at most eight deep, by the methods' names. */
    private static void depth(String code) {
        Map<String, Set<String>> calls = new TreeMap<>();
        Matcher m = Pattern.compile("(?ms)^( {4}| {8})(?:\\w[\\w\\[\\]]* )*(\\w+)\\([^;{}()]*\\) \\{$(.*?)^\\1\\}$")
            .matcher(code);
        while (m.find()) {
            calls.computeIfAbsent(m.group(2), name -> new TreeSet<>()).addAll(called(m.group(3)));
        }
        is("all methods were seen: " + calls.size() + " of " + names().size(),
            calls.keySet().containsAll(names()));
        for (String name : calls.keySet()) {
            is(name + " goes at most eight deep", deepest(name, calls, 0) <= 8);
        }
    }

    private static Set<String> names() {
        Set<String> names = new TreeSet<>();
        List<Class<?>> all = new ArrayList<>(List.of(ShowsWhereNobodyIs.class.getDeclaredClasses()));
        all.add(ShowsWhereNobodyIs.class);
        for (Class<?> each : all) {
            for (Method method : each.getDeclaredMethods()) {
                names.add(method.getName());
            }
        }
        return names;
    }

    private static Set<String> called(String body) {
        Set<String> names = new TreeSet<>();
        Matcher m = Pattern.compile("\\b(\\w+)\\(").matcher(body);
        while (m.find()) {
            names.add(m.group(1));
        }
        return names;
    }

    private static int deepest(String name, Map<String, Set<String>> calls, int above) {
        int deepest = above + 1;
        if (above < 20) {
            for (String each : calls.get(name)) {
                if (calls.containsKey(each)) {
                    deepest = Math.max(deepest, deepest(each, calls, above + 1));
                }
            }
        }
        return deepest;
    }
}
