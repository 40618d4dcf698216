import java.io.ByteArrayOutputStream;
import java.io.IOException;
import java.io.PrintStream;
import java.net.URL;
import java.net.URLClassLoader;
import java.nio.file.Files;
import java.nio.file.Path;
import java.util.ArrayList;
import java.util.List;
import javax.tools.ToolProvider;

/** The example of README.md compiles, and prints what the ends of its lines say. */
public final class ReadmeTest {
    private static final String PRINTS = "System.out.println(";

    public static void main(String[] args) throws Exception {
        List<String> example = example();
        List<String> due = due(example);
        Check.is("README.md has an example that prints", due.size() > 0, true);
        String[] got = printed(example).split("\\R");
        Check.is("lines printed", got.length, due.size());
        for (int line = 0; line < Math.min(got.length, due.size()); line++) {
            Check.is("line " + (line + 1) + " that the example prints", got[line], due.get(line));
        }
        Check.end();
    }

    private static List<String> example() throws IOException {
        List<String> lines = new ArrayList<>();
        boolean isInside = false;
        for (String line : Files.readAllLines(Path.of("README.md"))) {
            if (line.startsWith("```")) {
                isInside = line.equals("```java");
            } else if (isInside) {
                lines.add(line);
            }
        }
        return lines;
    }

    private static List<String> due(List<String> example) {
        List<String> due = new ArrayList<>();
        for (String line : example) {
            if (line.startsWith(PRINTS)) {
                due.add(line.substring(line.indexOf("// ") + 3));
            }
        }
        return due;
    }

    private static String printed(List<String> example) throws Exception {
        Path folder = Files.createTempDirectory("readme");
        Path source = folder.resolve("Example.java");
        Path compiled = folder.resolve("Example.class");
        try {
            String body = String.join("\n", example);
            Files.writeString(source, "public class Example {\npublic static void run() {\n" + body
                + "\n}\n}\n");
            int fault = ToolProvider.getSystemJavaCompiler().run(null, null, null, "-cp",
                System.getProperty("java.class.path"), "-d", folder.toString(), source.toString());
            Check.is("faults in compiling the example", fault, 0);
            return fault == 0 ? run(folder) : "";
        } finally {
            Files.deleteIfExists(compiled);
            Files.deleteIfExists(source);
            Files.deleteIfExists(folder);
        }
    }

    private static String run(Path folder) throws Exception {
        PrintStream before = System.out;
        ByteArrayOutputStream said = new ByteArrayOutputStream();
        try (URLClassLoader loader = new URLClassLoader(new URL[] {folder.toUri().toURL()})) {
            Class<?> example = loader.loadClass("Example");
            System.setOut(new PrintStream(said, true));
            example.getMethod("run").invoke(null);
        } finally {
            System.setOut(before);
        }
        return said.toString();
    }
}
