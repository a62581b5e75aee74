import java.io.ByteArrayOutputStream;
import java.io.IOException;
import java.io.PrintStream;
import java.net.URL;
import java.net.URLClassLoader;
import java.nio.charset.StandardCharsets;
import java.nio.file.Files;
import java.nio.file.Path;
import java.util.Comparator;
import java.util.List;
import java.util.stream.Stream;
import javax.tools.ToolProvider;

/** README.md's example compiles as it is written there, and prints what stands below it; each test is named there. */
public final class ReadmeTest {
    public static void main(String[] args) throws Exception {
        String readme = Files.readString(Path.of("README.md"));
        Path build = Files.createTempDirectory("readme");
        try {
            Path example = Files.writeString(build.resolve("Example.java"), block(readme, "java"));
            int code = ToolProvider.getSystemJavaCompiler().run(null, null, null, "-Xlint:all", "-Werror", "-d",
                    build.toString(), "src/main/java/IsingLab.java", example.toString());
            Check.same("javac", code, 0);
            Check.same("what the example prints", printed(build), block(readme, "text"));
        } finally {
            remove(build);
        }
        try (Stream<Path> tests = Files.list(Path.of("src/test/java"))) {
            for (String name : tests.map(t -> t.getFileName().toString().replace(".java", "")).sorted().toList()) {
                boolean named = !name.endsWith("Test") || readme.contains("`" + name + "`");
                Check.same(name + " is named in README.md", named, true);
            }
        }
        Check.end();
    }

    private static String block(String readme, String kind) {
        int begin = readme.indexOf("```" + kind + "\n");
        int end = readme.indexOf("```\n", begin + 1);
        return begin < 0 || end < 0 ? "" : readme.substring(readme.indexOf('\n', begin) + 1, end);
    }

    private static String printed(Path classes) throws Exception {
        ByteArrayOutputStream bytes = new ByteArrayOutputStream();
        PrintStream screen = System.out;
        URL[] from = {classes.toUri().toURL()};
        try (URLClassLoader loader = new URLClassLoader(from, ClassLoader.getPlatformClassLoader());
                PrintStream caught = new PrintStream(bytes, true, StandardCharsets.UTF_8)) {
            System.setOut(caught);
            loader.loadClass("Example").getMethod("main", String[].class).invoke(null, (Object) new String[0]);
        } finally {
            System.setOut(screen);
        }
        return bytes.toString(StandardCharsets.UTF_8).replace(System.lineSeparator(), "\n");
    }

    private static void remove(Path directory) throws IOException {
        List<Path> all;
        try (Stream<Path> walk = Files.walk(directory)) {
            all = walk.sorted(Comparator.reverseOrder()).toList();
        }
        for (Path path : all) {
            Files.delete(path);
        }
    }
}
