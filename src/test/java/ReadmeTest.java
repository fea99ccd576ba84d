import java.net.URI;
import java.net.URL;
import java.net.URLClassLoader;
import java.nio.charset.StandardCharsets;
import java.nio.file.Files;
import java.nio.file.Path;
import java.nio.file.Paths;
import java.util.Arrays;
import java.util.Comparator;
import java.util.List;
import java.util.regex.Matcher;
import java.util.regex.Pattern;
import java.util.stream.Stream;
import javax.tools.JavaCompiler;
import javax.tools.JavaFileObject;
import javax.tools.SimpleJavaFileObject;
import javax.tools.ToolProvider;

/** The lines of Java in README.md answer what stands beside them. */
public final class ReadmeTest {
    private static final Check CHECK = new Check();
    private static final Pattern BLOCK = Pattern.compile("(?s)```java\n(.*?)```");
    private static final Pattern ANSWER = Pattern.compile("(x\\..*);\\s+// (-?\\w+)\\b.*");
    private static int answers;

    public static void main(String[] args) throws Exception {
        String readme = new String(Files.readAllBytes(Paths.get("README.md")), StandardCharsets.UTF_8);
        Path out = Files.createTempDirectory("readme");
        try {
            CHECK.due("the lines of README.md compile", compile(program(readme), out), true);
            try (URLClassLoader loader = new URLClassLoader(new URL[] {out.toUri().toURL()}, ReadmeTest.class.getClassLoader())) {
                loader.loadClass("ReadmeLines").getMethod("run", Check.class).invoke(null, CHECK);
            }
        } finally {
            try (Stream<Path> all = Files.walk(out)) {
                all.sorted(Comparator.reverseOrder()).forEach(path -> path.toFile().delete());
            }
        }
        CHECK.due("more than twenty answers: " + answers, answers > 20, true);
        CHECK.done();
    }

    /** Blocks that begin with static are members; all others are one method, one behind the other. */
    private static String program(String readme) {
        StringBuilder members = new StringBuilder();
        StringBuilder lines = new StringBuilder();
        Matcher blocks = BLOCK.matcher(readme);
        while (blocks.find()) {
            if (blocks.group(1).startsWith("static ")) {
                members.append(blocks.group(1));
            } else {
                for (String line : blocks.group(1).split("\n")) {
                    lines.append(checked(line)).append('\n');
                }
            }
        }
        return "public class ReadmeLines {\n" + members + "public static void run(Check check) {\n" + lines + "}\n}\n";
    }

    private static String checked(String line) {
        Matcher answer = ANSWER.matcher(line);
        if (!answer.matches()) {
            return line;
        }
        answers++;
        String call = answer.group(1);
        return "check.due(\"" + call.replace("\"", "'") + "\", " + call + ", " + answer.group(2).replace("NONE", "HymnLamps.NONE") + ");";
    }

    private static boolean compile(String program, Path out) {
        JavaFileObject source = new SimpleJavaFileObject(URI.create("string:///ReadmeLines.java"), JavaFileObject.Kind.SOURCE) {
            @Override
            public CharSequence getCharContent(boolean any) {
                return program;
            }
        };
        JavaCompiler compiler = ToolProvider.getSystemJavaCompiler();
        List<String> options = Arrays.asList("-proc:none", "-d", out.toString(), "-cp", System.getProperty("java.class.path"));
        return compiler.getTask(null, null, null, options, null, Arrays.asList(source)).call();
    }
}
