import java.io.ByteArrayOutputStream;
import java.io.IOException;
import java.io.InputStream;
import java.nio.charset.StandardCharsets;
import java.nio.file.Files;
import java.nio.file.Path;
import java.util.ArrayList;
import java.util.Comparator;
import java.util.List;
import java.util.stream.Stream;
import javax.tools.JavaCompiler;
import javax.tools.ToolProvider;

/** The example of README.md compiles, runs, and prints what README.md says behind each line that prints. */
public final class ReadmeTest {
    private static final String PRINT = "System.out.println(";

    public static void main(String[] args) throws IOException, InterruptedException {
        List<String> example = example(Files.readAllLines(Path.of("README.md")));
        Path work = Files.createTempDirectory("readme");
        try {
            Files.write(work.resolve("Example.java"), example);
            if (compiles(work)) {
                compare(said(example), printed(work));
            }
        } finally {
            remove(work);
        }
        Due.done();
    }

    /** The lines of the one block of Java. */
    private static List<String> example(List<String> readme) {
        int blocks = 0;
        List<String> lines = new ArrayList<>();
        boolean within = false;
        for (String line : readme) {
            if (line.startsWith("```")) {
                within = line.equals("```java");
                blocks += within ? 1 : 0;
            } else if (within) {
                lines.add(line);
            }
        }
        Due.is("examples in README.md", blocks, 1);
        return lines;
    }

    private static boolean compiles(Path work) {
        JavaCompiler compiler = ToolProvider.getSystemJavaCompiler();
        String classes = System.getProperty("java.class.path");
        int result = compiler == null ? -1
                : compiler.run(null, System.out, System.out, "-cp", classes, "-d", work.toString(), work.resolve("Example.java").toString());
        Due.is("the compiler on README.md's example", result, 0);
        return result == 0;
    }

    private static List<String> printed(Path work) throws IOException, InterruptedException {
        String java = Path.of(System.getProperty("java.home"), "bin", "java").toString();
        String classes = work + System.getProperty("path.separator") + System.getProperty("java.class.path");
        Process run = new ProcessBuilder(java, "-cp", classes, "Example").redirectErrorStream(true).start();
        ByteArrayOutputStream all = new ByteArrayOutputStream();
        try (InputStream from = run.getInputStream()) {
            from.transferTo(all);
        }
        Due.is("exit code of README.md's example", run.waitFor(), 0);
        return all.toString(StandardCharsets.UTF_8).lines().toList();
    }

    /** What stands behind each line that prints: the call, then its answer up to a colon. */
    private static List<String[]> said(List<String> example) {
        List<String[]> said = new ArrayList<>();
        for (String line : example) {
            int print = line.indexOf(PRINT);
            if (print >= 0) {
                int end = line.indexOf(");", print);
                int note = line.indexOf("// ", print);
                String answer = note < 0 ? "nothing" : line.substring(note + 3).split(":")[0].trim();
                said.add(new String[] {line.substring(print + PRINT.length(), end), answer});
            }
        }
        return said;
    }

    private static void compare(List<String[]> said, List<String> printed) {
        Due.is("lines that README.md's example prints", printed.size(), said.size());
        Due.is("README.md says some answers", said.isEmpty() ? 0 : 1, 1);
        for (int i = 0; i < said.size() && i < printed.size(); i++) {
            Due.is("README.md's " + said.get(i)[0], printed.get(i), said.get(i)[1]);
        }
    }

    private static void remove(Path work) throws IOException {
        try (Stream<Path> all = Files.walk(work)) {
            for (Path path : all.sorted(Comparator.reverseOrder()).toList()) {
                Files.delete(path);
            }
        }
    }
}
