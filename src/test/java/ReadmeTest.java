import java.io.IOException;
import java.lang.reflect.Method;
import java.lang.reflect.Modifier;
import java.net.URL;
import java.net.URLClassLoader;
import java.nio.file.Files;
import java.nio.file.Path;
import java.util.ArrayList;
import java.util.Comparator;
import java.util.List;
import java.util.Set;
import java.util.TreeSet;
import java.util.regex.Matcher;
import java.util.regex.Pattern;
import java.util.stream.Stream;
import javax.tools.ToolProvider;

/**
 * What README.md shows must be so: its Java is compiled and run, and each call that has an answer
 * behind it must give that; its commands are run; its table has every test there is.
 */
public final class ReadmeTest {
    private static final Check CHECK = new Check();
    private static final Pattern CALL =
        Pattern.compile("(int \\w+ = )?((?:x\\.|read\\(x, )[^;]*(?:\"[^\"]*\"[^;]*)?\\);) *// (-?\\d+)(:.*)?");
    private static final Pattern OTHER_CODE = Pattern.compile("ShowsWhereNobodyIs x = new ShowsWhereNobodyIs\\(\\);");
    private static final int MOST_CALLS = 512;

    private ReadmeTest() {
    }

    public static void main(String[] args) throws Exception {
        String readme = Files.readString(Path.of("README.md"));
        Path out = Files.createTempDirectory("readme");
        try {
            answers(blocks(readme, "java"), out);
            faceIsShown(blocks(readme, "java"));
            commands(blocks(readme, "sh"), out);
            testsAreTold(readme);
            filesAreThere(readme);
        } finally {
            remove(out);
        }
        CHECK.end();
    }

    private static List<String> blocks(String readme, String language) {
        List<String> blocks = new ArrayList<>();
        Matcher m = Pattern.compile("(?ms)^```" + language + "\n(.*?)^```$").matcher(readme);
        while (m.find()) {
            blocks.add(m.group(1));
        }
        CHECK.due("there are blocks of " + language, blocks.isEmpty() ? 0 : 1, 1);
        return blocks;
    }

    // ---- the class's use ----

    private static void answers(List<String> blocks, Path out) throws Exception {
        Path source = out.resolve("Shown.java");
        Files.writeString(source, program(blocks));
        String classes = System.getProperty("java.class.path");
        int failed = ToolProvider.getSystemJavaCompiler()
            .run(null, null, null, "-cp", classes, "-d", out.toString(), source.toString());
        CHECK.due("what README.md shows is Java", failed, 0);
        if (failed != 0) {
            return;
        }
        try (URLClassLoader loader = new URLClassLoader(new URL[] {out.toUri().toURL()})) {
            long[] got = (long[]) loader.loadClass("Shown").getMethod("answers").invoke(null);
            List<String> lines = calls(blocks);
            CHECK.due("as many answers as calls", got.length, lines.size());
            for (int i = 0; i < got.length; i++) {
                CHECK.due("README.md: " + lines.get(i), got[i], answerOf(lines.get(i)));
            }
        }
    }

    /** A class Shown whose method tells all answers; blocks that declare a method stand beside it. */
    private static String program(List<String> blocks) {
        StringBuilder members = new StringBuilder();
        StringBuilder body = new StringBuilder();
        int count = 0;
        for (String block : blocks) {
            if (block.startsWith("static ")) {
                members.append(block);
                continue;
            }
            for (String line : block.split("\n")) {
                Matcher m = CALL.matcher(line);
                if (m.matches()) {
                    body.append("got[").append(count).append("] = ").append(m.group(2)).append('\n');
                    if (m.group(1) != null) {
                        body.append(m.group(1)).append("(int) got[").append(count).append("];\n");
                    }
                    count++;
                } else if (OTHER_CODE.matcher(line).matches()) {
                    body.append(line).append('\n');
                } else {
                    CHECK.fail("README.md has a line without an answer: " + line);
                }
            }
        }
        return "public final class Shown {\n" + members + "public static long[] answers() {\n"
            + "long[] got = new long[" + count + "];\n" + body + "return got;\n}\n}\n";
    }

    private static List<String> calls(List<String> blocks) {
        List<String> lines = new ArrayList<>();
        for (String block : blocks) {
            for (String line : block.split("\n")) {
                if (CALL.matcher(line).matches()) {
                    lines.add(line);
                }
            }
        }
        return lines;
    }

    private static long answerOf(String line) {
        Matcher m = CALL.matcher(line);
        if (!m.matches()) {
            throw new IllegalArgumentException(line);
        }
        return Long.parseLong(m.group(3));
    }

    private static void faceIsShown(List<String> blocks) {
        String all = String.join("\n", blocks);
        for (Method m : ShowsWhereNobodyIs.class.getDeclaredMethods()) {
            if (Modifier.isPublic(m.getModifiers())) {
                CHECK.due("README.md shows " + m.getName(), all.contains("x." + m.getName() + "(") ? 1 : 0, 1);
            }
        }
        int made = 0;
        for (String line : calls(blocks)) {
            Matcher text = Pattern.compile("read\\(x, \"([^\"]*)\"\\)").matcher(line);
            made += text.find() ? text.group(1).length() + 1 : 1;
        }
        CHECK.due("README.md's object gets 512 calls at most: " + made, made <= MOST_CALLS ? 1 : 0, 1);
    }

    // ---- the tests' use ----

    /** Each command must end well, but .ci/run, which runs this test. */
    private static void commands(List<String> blocks, Path out) throws Exception {
        boolean tellsRun = false;
        for (String block : blocks) {
            for (String command : block.split("\n")) {
                if (command.equals(".ci/run")) {
                    tellsRun = true;
                    CHECK.due(command + " can be run", Files.isExecutable(Path.of(command)) ? 1 : 0, 1);
                } else {
                    CHECK.due(command, exitCode(command, out), 0);
                }
            }
        }
        CHECK.due("README.md tells of .ci/run", tellsRun ? 1 : 0, 1);
    }

    private static int exitCode(String command, Path out) throws Exception {
        String elsewhere = command.replace("-d out ", "-d " + out + "/out ").replace("-cp out ", "-cp " + out + "/out ");
        return new ProcessBuilder("sh", "-c", elsewhere)
            .redirectErrorStream(true)
            .redirectOutput(ProcessBuilder.Redirect.DISCARD)
            .start().waitFor();
    }

    private static void testsAreTold(String readme) throws IOException {
        Set<String> told = new TreeSet<>();
        Matcher m = Pattern.compile("(?m)^\\| (\\w+Test) \\|").matcher(readme);
        while (m.find()) {
            told.add(m.group(1));
        }
        Set<String> are = new TreeSet<>();
        try (Stream<Path> files = Files.list(Path.of("src/test/java"))) {
            files.map(file -> file.getFileName().toString()).filter(name -> name.endsWith("Test.java"))
                .forEach(name -> are.add(name.replace(".java", "")));
        }
        CHECK.due("README.md's table has the tests " + are + ": " + told, told.equals(are) ? 1 : 0, 1);
    }

    private static void filesAreThere(String readme) {
        String shared = System.getProperty("shared", "../shared");
        Matcher m = Pattern.compile("`((?:src|\\.\\./shared)/[\\w./]+)`").matcher(readme);
        int seen = 0;
        while (m.find()) {
            Path file = Path.of(m.group(1).replace("../shared", shared));
            CHECK.due(file + " is there", Files.exists(file) ? 1 : 0, 1);
            seen++;
        }
        CHECK.due("files were named", seen > 0 ? 1 : 0, 1);
    }

    private static void remove(Path dir) throws IOException {
        try (Stream<Path> files = Files.walk(dir)) {
            for (Path file : files.sorted(Comparator.reverseOrder()).toList()) {
                Files.delete(file);
            }
        }
    }
}
