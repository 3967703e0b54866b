import java.io.IOException;
import java.net.URL;
import java.net.URLClassLoader;
import java.nio.file.Files;
import java.nio.file.Path;
import java.util.Set;
import java.util.TreeSet;
import java.util.regex.Matcher;
import java.util.regex.Pattern;
import javax.tools.JavaCompiler;
import javax.tools.ToolProvider;

/** Makes one program of the examples of README.md, in which each call's comment begins with its answer, and runs it. */
public final class ReadmeTest {
    private static final Path README = Path.of("README.md");
    private static final Path DOCUMENT = Path.of("../shared/DOC.md");
    private static final Pattern BLOCK = Pattern.compile("(?s)```java\n(.*?)```");
    private static final Pattern CALL = Pattern.compile("^(bench\\.\\w+\\(.*\\)); +// (-?\\d+|[A-Z_]+): (.*)$");
    private static final String PROGRAM = "ReadmeExamples";

    private static int wrong;
    private static int looked;

    /** The program of the examples calls this. */
    public static void due(String line, long got, long want) {
        looked++;
        if (got != want) {
            wrong++;
            System.out.println("README.md: " + line + " answered " + got);
        }
    }

    public static void main(String[] args) throws Exception {
        String readme = Files.readString(README);
        Path folder = Files.createTempDirectory("readme");
        try {
            run(program(readme), folder);
        } finally {
            removeAll(folder);
        }
        everyMethodIsNamed(readme);
        System.out.println(looked + " answers of README.md looked at, " + wrong + " wrong");
        if (wrong > 0 || looked == 0) {
            System.exit(1);
        }
    }

    private static String program(String readme) {
        StringBuilder code = new StringBuilder("public final class " + PROGRAM + " {\npublic static void main(String[] args) {\n");
        Matcher block = BLOCK.matcher(readme);
        while (block.find()) {
            for (String line : block.group(1).split("\n")) {
                code.append(checked(line)).append("\n");
            }
        }
        return code.append("}\n}\n").toString();
    }

    private static String checked(String line) {
        Matcher call = CALL.matcher(line);
        if (call.matches()) {
            String shown = call.group(1).replace("\\", "\\\\").replace("\"", "\\\"");
            String answer = call.group(2);
            boolean named = Character.isLetter(answer.charAt(0));
            return "ReadmeTest.due(\"" + shown + "\", " + call.group(1) + ", " + (named ? "CommutingWords." : "") + answer + ");";
        }
        if (line.startsWith("bench.")) {
            wrong++;
            System.out.println("README.md: no answer in: " + line);
        }
        return line;
    }

    private static void run(String program, Path folder) throws Exception {
        Path source = folder.resolve(PROGRAM + ".java");
        Files.writeString(source, program);
        JavaCompiler compiler = ToolProvider.getSystemJavaCompiler();
        int failed = compiler.run(null, null, null, "-cp", System.getProperty("java.class.path"),
            "-d", folder.toString(), source.toString());
        if (failed != 0) {
            wrong++;
            System.out.println("README.md: the examples don't compile:\n" + program);
            return;
        }
        try (URLClassLoader loader = new URLClassLoader(new URL[] {folder.toUri().toURL()})) {
            loader.loadClass(PROGRAM).getMethod("main", String[].class).invoke(null, (Object) new String[0]);
        }
    }

    private static void removeAll(Path folder) throws IOException {
        try (var files = Files.list(folder)) {
            for (Path file : files.toList()) {
                Files.delete(file);
            }
        }
        Files.delete(folder);
    }

    private static void everyMethodIsNamed(String readme) throws IOException {
        Set<String> missing = new TreeSet<>();
        Matcher line = Pattern.compile("(?m)^    public (?:int|long) (\\w+)\\(").matcher(Files.readString(DOCUMENT));
        while (line.find()) {
            looked++;
            if (!readme.contains("`" + line.group(1) + "`")) {
                missing.add(line.group(1));
            }
        }
        if (!missing.isEmpty()) {
            wrong++;
            System.out.println("README.md does not name " + missing);
        }
    }
}
