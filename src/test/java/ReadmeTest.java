import java.io.IOException;
import java.io.StringWriter;
import java.net.URL;
import java.net.URLClassLoader;
import java.nio.file.Files;
import java.nio.file.Path;
import java.util.ArrayList;
import java.util.Comparator;
import java.util.List;
import java.util.Set;
import java.util.TreeSet;
import java.util.function.BiConsumer;
import java.util.regex.Matcher;
import java.util.regex.Pattern;
import java.util.stream.Stream;
import javax.tools.JavaCompiler;
import javax.tools.StandardJavaFileManager;
import javax.tools.ToolProvider;

/** What README.md shows as code compiles and answers as it says there, and its lists leave nothing out. */
public final class ReadmeTest {
    /** A call, with a name for its answer or without one, and behind it the answer that is due. */
    private static final Pattern ASKED =
        Pattern.compile("(int (\\w+) = )?((?:x\\.|say\\(x, ).*);\\s+// (-?\\d+|BAD|STATE|FULL|NONE)(: .*)?");

    /** Not the project's own: another session may find other tests there. */
    private static final String SHARED = "../shared/tests/MillInspectorsRuns.java";

    public static void main(String[] args) throws Exception {
        String page = Files.readString(Path.of("README.md"));
        runs(blocks(page, "java"));
        commands(blocks(page, "sh"));
        namesEveryCall(page);
        namesEveryTest(page);
        Due.end("ReadmeTest");
    }

    private static List<String> blocks(String page, String language) {
        List<String> found = new ArrayList<>();
        Matcher block = Pattern.compile("(?ms)^```" + language + "\n(.*?)^```$").matcher(page);
        while (block.find()) {
            found.add(block.group(1));
        }
        Due.holds("README.md has code in " + language, !found.isEmpty());
        return found;
    }

    /** One program of all pieces: methods beside main, everything else within it. */
    private static String program(List<String> pieces) {
        StringBuilder methods = new StringBuilder();
        StringBuilder body = new StringBuilder();
        for (String piece : pieces) {
            if (piece.startsWith("static ")) {
                methods.append(piece);
            } else {
                piece.lines().forEach(line -> body.append(statement(line)).append('\n'));
            }
        }
        return "public final class Readme {\n static final int BAD = MillInspectors.BAD, STATE = MillInspectors.STATE,"
            + " FULL = MillInspectors.FULL, NONE = MillInspectors.NONE;\n" + methods
            + "public static void run(java.util.function.BiConsumer<String, long[]> due) {\n" + body + "}\n}\n";
    }

    private static String statement(String line) {
        if (line.equals("MillInspectors x = new MillInspectors();")) {
            return line;
        }
        Matcher asked = ASKED.matcher(line);
        Due.holds("README.md says what this answers: " + line, asked.matches());
        if (!asked.matches()) {
            return line;
        }
        String shown = "\"README.md: " + asked.group(3).replace("\"", "\\\"") + "\"";
        if (asked.group(2) == null) {
            return due(shown, asked.group(3), asked.group(4));
        }
        return "int " + asked.group(2) + " = " + asked.group(3) + ";\n" + due(shown, asked.group(2), asked.group(4));
    }

    private static String due(String shown, String got, String want) {
        return "due.accept(" + shown + ", new long[] {" + got + ", " + want + "});";
    }

    private static void runs(List<String> pieces) throws Exception {
        Path out = Files.createTempDirectory("readme");
        try {
            Path source = Files.writeString(out.resolve("Readme.java"), program(pieces));
            JavaCompiler javac = ToolProvider.getSystemJavaCompiler();
            StringWriter said = new StringWriter();
            try (StandardJavaFileManager files = javac.getStandardFileManager(null, null, null)) {
                List<String> options = List.of("-d", out.toString(), "-cp", System.getProperty("java.class.path"));
                boolean compiles = javac.getTask(said, files, null, options, null,
                    files.getJavaFileObjects(source)).call();
                Due.holds("README.md's Java compiles: " + said, compiles);
                if (!compiles) {
                    return;
                }
            }
            call(out);
        } finally {
            remove(out);
        }
    }

    /** A class of another loader can't see Due, which is not public: its answers are handed over. */
    private static void call(Path out) throws Exception {
        URL[] place = {out.toUri().toURL()};
        BiConsumer<String, long[]> due = (shown, answer) -> Due.is(shown, answer[0], answer[1]);
        try (URLClassLoader loader = new URLClassLoader(place, ReadmeTest.class.getClassLoader())) {
            loader.loadClass("Readme").getMethod("run", BiConsumer.class).invoke(null, due);
        }
    }

    private static void commands(List<String> pieces) throws Exception {
        Due.is("README.md runs all tests, and one alone of either place", pieces.size(), 3);
        for (String piece : pieces) {
            if (piece.strip().equals(".ci/run")) {
                Due.holds(".ci/run can be executed", Files.isExecutable(Path.of(".ci/run")));
            } else if (!piece.contains(SHARED) || Files.exists(Path.of(SHARED))) {
                Process process = new ProcessBuilder("sh", "-ec", piece).redirectErrorStream(true).start();
                String said = new String(process.getInputStream().readAllBytes());
                Due.is("exit code of README.md's\n" + piece + said, process.waitFor(), 0);
            }
        }
    }

    /** With the names of the parameters that the class has, in a list and in the code. */
    private static void namesEveryCall(String page) throws IOException {
        String source = Files.readString(Path.of("src/main/java/MillInspectors.java"));
        Matcher method = Pattern.compile("public (?:int|long) (\\w+)\\((.*?)\\) \\{").matcher(source);
        int found = 0;
        while (method.find()) {
            String call = method.group(1) + "(" + method.group(2).replaceAll("\\b(int|long) ", "") + ")";
            Due.holds("README.md lists " + call, page.contains("| `" + call + "` | "));
            Due.holds("README.md uses " + call, page.contains("x." + method.group(1) + "("));
            found++;
        }
        Due.is("public methods", found, 35);
    }

    private static void namesEveryTest(String page) throws IOException {
        Set<String> there = new TreeSet<>();
        try (Stream<Path> files = Files.list(Path.of("src/test/java"))) {
            files.map(file -> file.getFileName().toString().replace(".java", ""))
                .filter(name -> name.endsWith("Test")).forEach(there::add);
        }
        Set<String> named = new TreeSet<>();
        Matcher row = Pattern.compile("(?m)^\\| ([A-Za-z, ]+Test) \\|").matcher(page);
        while (row.find()) {
            named.addAll(List.of(row.group(1).split(", ")));
        }
        Due.holds("README.md names the tests " + there + ": " + named, there.equals(named));
    }

    private static void remove(Path folder) throws IOException {
        try (Stream<Path> files = Files.walk(folder)) {
            for (Path file : files.sorted(Comparator.reverseOrder()).toList()) {
                Files.delete(file);
            }
        }
    }
}
