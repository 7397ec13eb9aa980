import java.io.StringWriter;
import java.lang.reflect.Method;
import java.lang.reflect.Modifier;
import java.net.URL;
import java.net.URLClassLoader;
import java.nio.file.Files;
import java.nio.file.Path;
import java.util.ArrayList;
import java.util.List;
import java.util.regex.Matcher;
import java.util.regex.Pattern;
import java.util.stream.Stream;
import javax.tools.JavaCompiler;
import javax.tools.StandardJavaFileManager;
import javax.tools.ToolProvider;

/** The examples of README.md compile and answer what stands behind them, and README.md names each call. */
public final class ReadmeTest {
    private static final Pattern EXAMPLE = Pattern.compile("(?ms)^```java\n(.*?)^```");
    private static final Pattern ANSWERED = Pattern.compile("(?m)^(x\\..*\\));\\s*// (-?[0-9]+): .*$");

    public static void main(String[] args) throws Exception {
        String page = Files.readString(Path.of("README.md"));
        for (Method m : Ambassadors.class.getDeclaredMethods()) {
            if (Modifier.isPublic(m.getModifiers())) {
                Check.due("README.md names " + m.getName(), page.contains('`' + m.getName() + '`') ? 1 : 0, 1);
            }
        }
        List<String> examples = new ArrayList<>();
        for (Matcher m = EXAMPLE.matcher(page); m.find();) {
            examples.add(m.group(1));
        }
        Check.due("README.md has examples", examples.isEmpty() ? 0 : 1, 1);
        play(examples);
        Check.finish();
    }

    private static void play(List<String> examples) throws Exception {
        Path folder = Files.createTempDirectory("readme");
        try {
            Path file = folder.resolve("Examples.java");
            Files.writeString(file, program(examples));
            boolean good = compile(file);
            Check.due("the examples compile", good ? 1 : 0, 1);
            if (good) {
                try (URLClassLoader loader = new URLClassLoader(new URL[] {folder.toUri().toURL()},
                        ReadmeTest.class.getClassLoader())) {
                    Class<?> c = loader.loadClass("Examples");
                    for (int i = 0; i < examples.size(); i++) {
                        play(c, i, examples.get(i));
                    }
                }
            }
        } finally {
            try (Stream<Path> files = Files.list(folder)) {
                for (Path p : files.toList()) {
                    Files.delete(p);
                }
            }
            Files.delete(folder);
        }
    }

    /** Each example is a method that answers all its answers. */
    private static String program(List<String> examples) {
        StringBuilder program = new StringBuilder("public class Examples {\n");
        for (int i = 0; i < examples.size(); i++) {
            program.append("public static java.util.List<Long> example").append(i).append("() {\n")
                .append("java.util.List<Long> answers = new java.util.ArrayList<>();\n")
                .append(ANSWERED.matcher(examples.get(i)).replaceAll("answers.add((long) $1);"))
                .append("return answers;\n}\n");
        }
        return program.append("}\n").toString();
    }

    private static boolean compile(Path file) throws Exception {
        JavaCompiler compiler = ToolProvider.getSystemJavaCompiler();
        try (StandardJavaFileManager files = compiler.getStandardFileManager(null, null, null)) {
            StringWriter said = new StringWriter();
            List<String> options = List.of("-cp", System.getProperty("java.class.path"), "-d", file.getParent().toString());
            boolean good = compiler.getTask(said, files, null, options, null, files.getJavaFileObjects(file)).call();
            System.out.print(said);
            return good;
        }
    }

    private static void play(Class<?> c, int i, String example) throws Exception {
        List<?> answers = (List<?>) c.getMethod("example" + i).invoke(null);
        Matcher line = ANSWERED.matcher(example);
        int k = 0;
        while (line.find() && k < answers.size()) {
            Check.due("README.md: " + line.group(1), (Long) answers.get(k++), Long.parseLong(line.group(2)));
        }
        Check.due("answers of an example", k > 0 && k == answers.size() ? 1 : 0, 1);
    }
}
