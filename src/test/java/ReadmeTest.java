import java.io.IOException;
import java.io.StringWriter;
import java.lang.reflect.Field;
import java.lang.reflect.Method;
import java.lang.reflect.Modifier;
import java.net.URL;
import java.net.URLClassLoader;
import java.nio.charset.StandardCharsets;
import java.nio.file.Files;
import java.nio.file.Path;
import java.util.ArrayList;
import java.util.Comparator;
import java.util.List;
import java.util.regex.Matcher;
import java.util.regex.Pattern;
import java.util.stream.Stream;
import javax.tools.JavaCompiler;
import javax.tools.StandardJavaFileManager;
import javax.tools.ToolProvider;

/** What README.md shows: its example compiles and answers as it says, and its tables name the whole face. */
public final class ReadmeTest {
    private static final Path README = Path.of("README.md");

    /** A call that begins a line of the example, what takes its answer, and the answer told behind it. */
    private static final Pattern CALL = Pattern.compile("(int (\\w+) = )?(stadium\\.\\w+\\(.*\\)); *// (-?\\d+): \\S.*");
    private static final Pattern NAMED_CALL = Pattern.compile("^\\| `(\\w+)\\(([^)]*)\\)` \\| \\S.*");
    private static final int MOST_CALLS = 512;

    public static void main(String[] args) throws IOException, ReflectiveOperationException {
        List<String> readme = Files.readAllLines(README, StandardCharsets.UTF_8);
        exampleAnswersAsTold(example(readme));
        constantsAreNamed(readme);
        callsAreNamed(readme);
        usesAreLimited(readme);
        testsAreRunAsTold(readme);
        Due.end();
    }

    private static List<String> example(List<String> readme) {
        int start = readme.indexOf("```java");
        Due.holds("README.md shows an example", start >= 0);
        List<String> after = readme.subList(start + 1, readme.size());
        return after.subList(0, after.indexOf("```"));
    }

    private static void exampleAnswersAsTold(List<String> example) throws IOException, ReflectiveOperationException {
        List<String> calls = new ArrayList<>();
        List<Integer> wanted = new ArrayList<>();
        StringBuilder body = new StringBuilder();
        for (String line : example) {
            Matcher call = CALL.matcher(line);
            if (!call.matches()) {
                Due.holds("an answer stands behind " + line, isWithoutAnswer(line));
                body.append(line).append('\n');
                continue;
            }
            calls.add(call.group(3));
            wanted.add(Integer.parseInt(call.group(4)));
            body.append(call.group(1) == null
                ? "answers.add(" + call.group(3) + ");\n"
                : line + "\nanswers.add(" + call.group(2) + ");\n");
        }
        Due.holds("the example shows calls", calls.size() > 0);
        List<Integer> got = answers(body.toString());
        Due.due("answers of the example", got.size(), wanted.size());
        for (int i = 0; i < got.size() && i < wanted.size(); i++) {
            Due.due("README.md: " + calls.get(i), got.get(i), wanted.get(i));
        }
        shownCodes(wanted);
    }

    /** Only the object's own line, empty lines and loops that fill something stand without an answer. */
    private static boolean isWithoutAnswer(String line) {
        return line.isBlank() || line.equals("SightBlocks stadium = new SightBlocks();") || line.startsWith("for (")
            || line.startsWith("    ") && !line.contains("//") || line.equals("}");
    }

    private static void shownCodes(List<Integer> wanted) {
        for (int code : new int[] {SightBlocks.INVALID_ARGUMENT, SightBlocks.ILLEGAL_STATE,
            SightBlocks.CAPACITY_EXCEEDED, SightBlocks.NONE}) {
            Due.holds("the example shows the answer " + code, wanted.contains(code));
        }
        Due.holds("the example shows a program that fails", wanted.stream().anyMatch(answer -> answer <= -1000));
    }

    /** Compiles the lines of the example and runs them. */
    private static List<Integer> answers(String body) throws IOException, ReflectiveOperationException {
        Path folder = Files.createTempDirectory("readme");
        try {
            Path source = folder.resolve("ReadmeExample.java");
            Files.writeString(source, "public final class ReadmeExample {\n"
                + "public static void run(java.util.List<Integer> answers) {\n" + body + "}\n}\n");
            boolean compiles = compiles(source, folder);
            Due.holds("the example compiles", compiles);
            List<Integer> answers = new ArrayList<>();
            if (compiles) {
                try (URLClassLoader loader = new URLClassLoader(new URL[] {folder.toUri().toURL()})) {
                    loader.loadClass("ReadmeExample").getMethod("run", List.class).invoke(null, answers);
                }
            }
            return answers;
        } finally {
            remove(folder);
        }
    }

    private static boolean compiles(Path source, Path folder) throws IOException {
        JavaCompiler compiler = ToolProvider.getSystemJavaCompiler();
        StringWriter told = new StringWriter();
        try (StandardJavaFileManager files = compiler.getStandardFileManager(null, null, null)) {
            List<String> options = List.of("-d", folder.toString(), "-cp", System.getProperty("java.class.path"));
            boolean done = compiler.getTask(told, files, null, options, null, files.getJavaFileObjects(source)).call();
            System.out.print(told);
            return done;
        }
    }

    private static void remove(Path folder) throws IOException {
        try (Stream<Path> inside = Files.walk(folder)) {
            for (Path path : inside.sorted(Comparator.reverseOrder()).toList()) {
                Files.delete(path);
            }
        }
    }

    private static void constantsAreNamed(List<String> readme) throws IllegalAccessException {
        for (Field field : SightBlocks.class.getFields()) {
            String row = "| `" + field.getName() + "` | " + field.getInt(null) + " | ";
            Due.holds("README.md has the row " + row, readme.stream().anyMatch(line -> line.startsWith(row)));
        }
    }

    private static void callsAreNamed(List<String> readme) {
        List<String> named = new ArrayList<>();
        for (String line : readme) {
            Matcher call = NAMED_CALL.matcher(line);
            if (call.matches()) {
                int parameters = call.group(2).isEmpty() ? 0 : call.group(2).split(", ").length;
                named.add(call.group(1) + " " + parameters);
            }
        }
        List<String> face = new ArrayList<>();
        for (Method method : SightBlocks.class.getDeclaredMethods()) {
            if (Modifier.isPublic(method.getModifiers())) {
                face.add(method.getName() + " " + method.getParameterCount());
            }
        }
        face.sort(null);
        named.sort(null);
        Due.holds("README.md names each call once: " + face + ", it has " + named, named.equals(face));
    }

    private static void usesAreLimited(List<String> readme) {
        String words = String.join(" ", readme);
        Due.holds("README.md tells for how many calls an object is",
            words.contains("An object is to be used for at most " + MOST_CALLS + " calls after it has been made"));
    }

    /** The first shown line below "Tests" is a script of this folder that can be started as it stands there. */
    private static void testsAreRunAsTold(List<String> readme) {
        List<String> after = readme.subList(readme.indexOf("## Tests") + 1, readme.size());
        String command = after.stream().filter(line -> line.startsWith("    ")).findFirst().orElse("").trim();
        Due.holds("README.md names the script that runs the tests", command.equals(".ci/run"));
        Due.holds(command + " can be started", Files.isExecutable(Path.of(command)));
    }
}
