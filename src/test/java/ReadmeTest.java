import java.io.ByteArrayOutputStream;
import java.io.IOException;
import java.io.PrintStream;
import java.lang.reflect.Method;
import java.lang.reflect.Modifier;
import java.net.URL;
import java.net.URLClassLoader;
import java.nio.file.Files;
import java.nio.file.Path;
import java.util.ArrayList;
import java.util.List;
import javax.tools.JavaCompiler;
import javax.tools.ToolProvider;

/** The program in README.md compiles, calls every method, and prints what stands behind its calls. */
public final class ReadmeTest extends Checks {
    private static final Path README = Path.of("README.md");
    private static final Path OUT = Path.of("build/readme");
    private static final String PRINTS = "System.out.println(";

    /** The lines of the page's one program. */
    private static List<String> program() throws IOException {
        List<String> lines = new ArrayList<>();
        boolean inside = false;
        for (String line : Files.readAllLines(README)) {
            if (line.startsWith("```")) {
                inside = line.equals("```java");
            } else if (inside) {
                lines.add(line);
            }
        }
        return lines;
    }

    /** What the page says that the program prints: behind each such call, up to a colon. */
    private static List<String> answers(List<String> program) {
        List<String> answers = new ArrayList<>();
        for (String line : program) {
            int comment = line.indexOf("// ");
            if (line.contains(PRINTS)) {
                is("a comment behind " + line.strip(), true, comment > line.indexOf(PRINTS));
                answers.add(line.substring(comment + 3).split(":")[0]);
            }
        }
        return answers;
    }

    private static boolean compiles(List<String> program) throws IOException {
        Files.createDirectories(OUT);
        Path file = OUT.resolve("Example.java");
        Files.write(file, program);
        JavaCompiler compiler = ToolProvider.getSystemJavaCompiler();
        String classes = System.getProperty("java.class.path");
        return compiler.run(null, null, null, "--release", "17", "-cp", classes, "-d", OUT.toString(),
            file.toString()) == 0;
    }

    private static List<String> printed() throws IOException, ReflectiveOperationException {
        PrintStream console = System.out;
        ByteArrayOutputStream written = new ByteArrayOutputStream();
        try (URLClassLoader loader = new URLClassLoader(new URL[] {OUT.toUri().toURL()})) {
            System.setOut(new PrintStream(written, true));
            loader.loadClass("Example").getMethod("main", String[].class).invoke(null, (Object) new String[0]);
        } finally {
            System.setOut(console);
        }
        return written.toString().lines().toList();
    }

    private static void callsEveryMethod(List<String> program) {
        String text = String.join("\n", program);
        for (Method method : HazelGift.class.getDeclaredMethods()) {
            if (Modifier.isPublic(method.getModifiers())) {
                is("a call of " + method.getName(), true, text.contains("game." + method.getName() + "("));
            }
        }
    }

    public static void main(String[] args) throws IOException, ReflectiveOperationException {
        looked = "README.md";
        List<String> program = program();
        callsEveryMethod(program);
        List<String> answers = answers(program);
        boolean good = compiles(program);
        is("the program compiles", true, good);
        if (good) {
            List<String> printed = printed();
            is("the number of answers", answers.size(), printed.size());
            for (int i = 0; i < Math.min(answers.size(), printed.size()); i++) {
                is("the answer " + (i + 1), answers.get(i), printed.get(i));
            }
            System.out.println(printed.size() + " answers are printed");
        }
        end();
    }
}
