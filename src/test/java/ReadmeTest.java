import java.io.IOException;
import java.lang.reflect.Method;
import java.net.URL;
import java.net.URLClassLoader;
import java.nio.file.Files;
import java.nio.file.Path;
import java.util.ArrayList;
import java.util.Comparator;
import java.util.List;
import java.util.stream.Stream;
import javax.tools.ToolProvider;

/**
 * The example of README.md. It is compiled from there, with what opens answers put down, so that neither its calls nor
 * what its comments say can part from the class.
 */
public final class ReadmeTest {
    private static final String ASKED = "    machine.opens(secret);";

    private ReadmeTest() { }

    public static void main(String[] args) throws Exception {
        Check check = new Check();
        Path made = Files.createTempDirectory("readme");
        try {
            List<String> example = example();
            List<Boolean> opened = new ArrayList<>();
            StartChain machine = run(made, example, opened);
            check.same("opens, each time", List.of(true, false, true), opened);
            check.same("opens, as the comments say", told(example), opened);
            check.same("it runs", 'r', machine.state());
            check.same("the counter is committed", 5, machine.counter(0));
            check.same("it fell back once", 1, machine.fallbacks());
            check.same("the slot of version 5", 0, machine.runsFrom(0));
            check.same("the mean version", 5.0, machine.meanVersion());
            check.same("version 6 is measured first", 120, machine.entry(0));
            check.same("version 5 is measured then", 100, machine.entry(1));
            check.same("the register", 31 * 121 + 101, machine.register(0));
            check.same("nobody agrees any more", 0, machine.setAgreed(4, false));
        } finally {
            remove(made);
        }
        check.finish();
    }

    private static List<String> example() throws IOException {
        List<String> example = new ArrayList<>();
        boolean isInside = false;
        for (String line : Files.readAllLines(Path.of("README.md"))) {
            if (line.startsWith("```")) {
                isInside = line.equals("```java");
            } else if (isInside) {
                example.add(line);
            }
        }
        return example;
    }

    private static List<Boolean> told(List<String> example) {
        return example.stream().filter(line -> line.startsWith(ASKED))
                .map(line -> line.substring(ASKED.length()).trim().startsWith("// true")).toList();
    }

    private static StartChain run(Path made, List<String> example, List<Boolean> opened) throws Exception {
        List<String> lines = new ArrayList<>();
        lines.add("public final class Example {");
        lines.add("public static StartChain run(java.util.List<Boolean> opened) {");
        for (String line : example) {
            lines.add(line.replace(ASKED, "opened.add(machine.opens(secret));"));
        }
        lines.add("return machine;");
        lines.add("}");
        lines.add("}");
        Path source = made.resolve("Example.java");
        Files.write(source, lines);
        int failed = ToolProvider.getSystemJavaCompiler().run(null, null, null, "-encoding", "UTF-8", "-cp",
                System.getProperty("java.class.path"), "-d", made.toString(), source.toString());
        if (failed != 0) {
            throw new IllegalStateException("the example of README.md does not compile");
        }
        try (URLClassLoader loader = new URLClassLoader(new URL[] {made.toUri().toURL()})) {
            Method run = loader.loadClass("Example").getMethod("run", List.class);
            return (StartChain) run.invoke(null, opened);
        }
    }

    private static void remove(Path directory) throws IOException {
        try (Stream<Path> paths = Files.walk(directory)) {
            for (Path path : paths.sorted(Comparator.reverseOrder()).toList()) {
                Files.delete(path);
            }
        }
    }
}
