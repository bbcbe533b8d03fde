import java.io.IOException;
import java.net.URL;
import java.net.URLClassLoader;
import java.nio.charset.StandardCharsets;
import java.nio.file.Files;
import java.nio.file.Path;
import java.util.ArrayList;
import java.util.Comparator;
import java.util.List;
import java.util.stream.Stream;
import javax.tools.ToolProvider;

/** Runs what README.md shows, in a directory of its own with a copy of the project's sources beside the shared files. */
final class ReadmeExamples implements AutoCloseable {
    private final Path root = Files.createTempDirectory("readme");
    private final Path project = root.resolve("project");

    ReadmeExamples(Path sources, Path shared) throws IOException {
        Path copy = project.resolve(sources.toString());
        for (Path file : allUnder(sources)) {
            Path place = copy.resolve(sources.relativize(file).toString());
            if (Files.isDirectory(file)) {
                Files.createDirectories(place);
            } else {
                Files.copy(file, place);
            }
        }
        Files.createSymbolicLink(root.resolve("shared"), shared.toRealPath());
    }

    /** A program stands where the page says that it is put: beside the page. */
    void put(Readme.Block program) throws IOException {
        String name = Readme.found("public final class (\\w+)", program.text()).get(0);
        Files.writeString(project.resolve(name + ".java"), program.text());
    }

    /** What the commands print, with a last line that tells how they ended. */
    String printedBy(Readme.Block commands) throws IOException, InterruptedException {
        Process shell = new ProcessBuilder("sh", "-e", "-c", commands.text())
            .directory(project.toFile()).redirectErrorStream(true).start();
        String printed = new String(shell.getInputStream().readAllBytes(), StandardCharsets.UTF_8);
        return printed + "ended with " + shell.waitFor() + "\n";
    }

    /** What the calls of a fragment answer, one after the other. */
    List<Double> answersOf(Readme.Block fragment) throws IOException, ReflectiveOperationException {
        String name = "Fragment" + fragment.line();
        Path source = root.resolve(name + ".java");
        Files.writeString(source, asClass(name, fragment));
        int failed = ToolProvider.getSystemJavaCompiler().run(null, null, null,
            "-d", root.toString(), "-cp", System.getProperty("java.class.path"), source.toString());
        List<Double> answers = new ArrayList<>();
        if (failed == 0) {
            try (URLClassLoader loader = new URLClassLoader(new URL[] {root.toUri().toURL()})) {
                loader.loadClass(name).getMethod("run", List.class).invoke(null, answers);
            }
        }
        return answers;
    }

    private static String asClass(String name, Readme.Block fragment) {
        StringBuilder text = new StringBuilder();
        text.append("public final class ").append(name).append(" {\n");
        text.append("public static void run(java.util.List<Double> answers) {\n");
        for (String line : fragment.lines()) {
            Readme.Example example = Readme.Example.of(0, line);
            text.append(example == null ? line : "answers.add((double) " + example.call() + ");").append('\n');
        }
        return text.append("}\n}\n").toString();
    }

    private static List<Path> allUnder(Path directory) throws IOException {
        try (Stream<Path> files = Files.walk(directory)) {
            return files.toList();
        }
    }

    @Override
    public void close() throws IOException {
        List<Path> files = new ArrayList<>(allUnder(root));
        files.sort(Comparator.reverseOrder());
        for (Path file : files) {
            Files.delete(file);
        }
    }
}
