import java.io.IOException;
import java.lang.reflect.Method;
import java.lang.reflect.Modifier;
import java.net.URL;
import java.net.URLClassLoader;
import java.nio.file.DirectoryStream;
import java.nio.file.Files;
import java.nio.file.Path;
import java.util.ArrayList;
import java.util.List;
import java.util.Set;
import java.util.TreeSet;
import java.util.regex.Matcher;
import java.util.regex.Pattern;
import javax.tools.JavaCompiler;
import javax.tools.ToolProvider;

/** README.md says what is so: its example is run as it stands, its lists are held against what there is. */
public final class CheckRulesReadme extends Answers {
    private static final Path README = Path.of("README.md");
    private static final Path TESTS = Path.of("src/test/java");
    private static final Pattern ANSWERED = Pattern.compile("(.*);\\s+// (.*)");
    private static final Pattern TAKEN = Pattern.compile("int (\\w+) = .*");
    private static final Pattern ROW = Pattern.compile("\\| `(\\w+)\\((.*)\\)` \\| (.*) \\|(.*)\\|");
    private static final Pattern EXCEPTION = Pattern.compile("\\w+Exception");
    private static final Pattern TEST = Pattern.compile("`src/test/java/(\\w+\\.java)`");

    public static void main(String[] args) throws Exception {
        List<String> lines = Files.readAllLines(README);
        exampleAnswersAsItSays(lines);
        callsAreTheFace(lines);
        testsAreThere(lines);
        tell();
    }

    private static void exampleAnswersAsItSays(List<String> readme) throws Exception {
        sentence("README.md, the example");
        List<String> due = new ArrayList<>();
        String program = program(readme.subList(readme.indexOf("```java") + 1, readme.size()), due);
        yes("it has calls with answers", due.size() > 10);
        List<String> said = run(program);
        due("answers", due.size(), said.size());
        for (int i = 0; i < Math.min(due.size(), said.size()); i++) {
            due("answer " + i, due.get(i), said.get(i));
        }
    }

    /** The example up to the end of its block, each answer of it put on a list. */
    private static String program(List<String> lines, List<String> due) {
        StringBuilder b = new StringBuilder("public final class Example {\n");
        b.append("public static void say(java.util.List<String> said) {\n");
        for (String line : lines) {
            if (line.equals("```")) {
                break;
            }
            Matcher answered = ANSWERED.matcher(line);
            if (!answered.matches()) {
                b.append(line).append('\n');
                continue;
            }
            String call = answered.group(1);
            Matcher taken = TAKEN.matcher(call);
            boolean takes = taken.matches();
            b.append(takes ? call + ";\n" : "");
            b.append("said.add(String.valueOf(").append(takes ? taken.group(1) : call).append("));\n");
            due.add(answered.group(2).split(": ")[0]);
        }
        return b.append("}\n}\n").toString();
    }

    private static List<String> run(String program) throws Exception {
        Path folder = Files.createTempDirectory("readme");
        Path source = folder.resolve("Example.java");
        Path compiled = folder.resolve("Example.class");
        List<String> said = new ArrayList<>();
        try {
            Files.writeString(source, program);
            JavaCompiler javac = ToolProvider.getSystemJavaCompiler();
            String classes = System.getProperty("java.class.path");
            int code = javac.run(null, System.out, System.out, "-cp", classes, "-d", folder.toString(), source.toString());
            due("it compiles", 0, code);
            if (code == 0) {
                try (URLClassLoader loader = new URLClassLoader(new URL[] {folder.toUri().toURL()})) {
                    loader.loadClass("Example").getMethod("say", List.class).invoke(null, said);
                }
            }
        } finally {
            Files.deleteIfExists(source);
            Files.deleteIfExists(compiled);
            Files.deleteIfExists(folder);
        }
        return said;
    }

    /** Name, number of parameters, and exceptions of each call, as told and as declared. */
    private static void callsAreTheFace(List<String> readme) {
        sentence("README.md, the calls");
        Set<String> told = new TreeSet<>();
        for (String line : readme) {
            Matcher row = ROW.matcher(line);
            if (row.matches()) {
                int parameters = row.group(2).isEmpty() ? 0 : row.group(2).split(", ").length;
                Matcher exception = EXCEPTION.matcher(row.group(4));
                told.add(row.group(1) + " " + parameters + " " + (exception.find() ? exception.group() : ""));
            }
        }
        Set<String> face = new TreeSet<>();
        for (Method method : CheckRules.class.getDeclaredMethods()) {
            if (Modifier.isPublic(method.getModifiers())) {
                Class<?>[] thrown = method.getExceptionTypes();
                String exception = thrown.length == 0 ? "" : thrown[0].getSimpleName();
                face.add(method.getName() + " " + method.getParameterCount() + " " + exception);
            }
        }
        due("calls", face.toString(), told.toString());
    }

    private static void testsAreThere(List<String> readme) throws IOException {
        sentence("README.md, the tests");
        Set<String> told = new TreeSet<>();
        for (String line : readme) {
            Matcher test = TEST.matcher(line);
            while (test.find()) {
                told.add(test.group(1));
            }
        }
        Set<String> there = new TreeSet<>();
        try (DirectoryStream<Path> files = Files.newDirectoryStream(TESTS)) {
            for (Path file : files) {
                there.add(file.getFileName().toString());
            }
        }
        due("tests", there.toString(), told.toString());
    }
}
