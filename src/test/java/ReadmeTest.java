import java.io.ByteArrayOutputStream;
import java.io.IOException;
import java.io.PrintStream;
import java.net.URL;
import java.net.URLClassLoader;
import java.nio.charset.StandardCharsets;
import java.nio.file.Files;
import java.nio.file.Path;
import java.util.ArrayList;
import java.util.List;
import java.util.regex.Matcher;
import java.util.regex.Pattern;
import javax.tools.ToolProvider;

/** The program in README.md compiles, and prints what stands behind its calls. */
public final class ReadmeTest {
    private static final Pattern PRINTED = Pattern.compile("System\\.out\\.println\\(.*\\); +// (-?\\w+).*");

    private ReadmeTest() {
    }

    private static List<String> program() throws IOException {
        List<String> program = new ArrayList<>();
        boolean isInside = false;
        for (String line : Files.readAllLines(Path.of("README.md"), StandardCharsets.UTF_8)) {
            if (line.startsWith("```")) {
                isInside = line.equals("```java");
            } else if (isInside) {
                program.add(line);
            }
        }
        return program;
    }

    private static String[] printedBy(List<String> program, Path in) throws IOException, ReflectiveOperationException {
        Path source = in.resolve("Example.java");
        Files.write(source, program, StandardCharsets.UTF_8);
        int refused = ToolProvider.getSystemJavaCompiler().run(null, null, null, "-cp", System.getProperty("java.class.path"),
            "-d", in.toString(), source.toString());
        Check.due("javac Example.java", refused, 0);
        ByteArrayOutputStream printed = new ByteArrayOutputStream();
        PrintStream before = System.out;
        try (URLClassLoader loader = new URLClassLoader(new URL[] {in.toUri().toURL()}, ReadmeTest.class.getClassLoader())) {
            System.setOut(new PrintStream(printed, true, StandardCharsets.UTF_8));
            loader.loadClass("Example").getMethod("main", String[].class).invoke(null, (Object) new String[0]);
        } finally {
            System.setOut(before);
        }
        return printed.toString(StandardCharsets.UTF_8).split("\\R");
    }

    private static void clear(Path folder) throws IOException {
        for (String name : new String[] {"Example.java", "Example.class"}) {
            Files.deleteIfExists(folder.resolve(name));
        }
        Files.delete(folder);
    }

    public static void main(String[] args) throws IOException, ReflectiveOperationException {
        List<String> program = program();
        Path folder = Files.createTempDirectory("readme");
        String[] printed = printedBy(program, folder);
        clear(folder);
        int next = 0;
        for (String line : program) {
            if (line.contains("System.out")) {
                Matcher told = PRINTED.matcher(line.strip());
                boolean isSo = told.matches() && next < printed.length && printed[next].equals(told.group(1));
                Check.due(line.strip() + " printed " + (next < printed.length ? printed[next] : "nothing"), isSo, true);
                next++;
            }
        }
        Check.due("lines printed", printed.length, next);
        Check.due("the page has a program", next > 0, true);
        Check.close();
    }
}
