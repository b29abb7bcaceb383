import java.io.ByteArrayOutputStream;
import java.io.IOException;
import java.lang.reflect.Method;
import java.lang.reflect.Modifier;
import java.nio.charset.StandardCharsets;
import java.nio.file.Files;
import java.nio.file.Path;
import java.util.ArrayList;
import java.util.Comparator;
import java.util.List;
import java.util.stream.Stream;
import javax.tools.ToolProvider;

/** README.md holds: its program prints what stands there, and it names every call and every test. */
public final class ReadmeTest {
    public static void main(String[] args) throws IOException, InterruptedException {
        String page = Files.readString(Path.of("README.md"), StandardCharsets.UTF_8);
        String due = block(page, "```text\n");
        String got = printedBy(block(page, "```java\n"));
        Check.same("the program prints\n" + got, 1, () -> got.equals(due) ? 1 : 0);
        for (Method call : HeavyGifts.class.getDeclaredMethods()) {
            if (Modifier.isPublic(call.getModifiers())) {
                named(page, call.getName());
            }
        }
        for (String test : testNames()) {
            named(page, test);
        }
        Check.end();
    }

    private static void named(String page, String name) {
        Check.same("`" + name + "` is named", 1, () -> page.contains("`" + name + "`") ? 1 : 0);
    }

    private static String block(String page, String begin) {
        int from = page.indexOf(begin);
        int to = page.indexOf("```", from + begin.length());
        return from < 0 || to < 0 ? "" : page.substring(from + begin.length(), to);
    }

    private static List<String> testNames() throws IOException {
        List<String> names = new ArrayList<>();
        try (Stream<Path> files = Files.list(Path.of("src/test/java"))) {
            files.forEach(file -> names.add(file.getFileName().toString().replace(".java", "")));
        }
        return names;
    }

    private static String printedBy(String program) throws IOException, InterruptedException {
        Path place = Files.createTempDirectory("readme");
        try {
            Path file = Files.writeString(place.resolve("Example.java"), program);
            String classes = System.getProperty("java.class.path");
            ByteArrayOutputStream told = new ByteArrayOutputStream();
            int refused = ToolProvider.getSystemJavaCompiler().run(null, told, told, "-cp", classes, "-d", "" + place,
                    "" + file);
            return refused != 0 ? told.toString(StandardCharsets.UTF_8) : run(classes, place);
        } finally {
            remove(place);
        }
    }

    private static String run(String classes, Path place) throws IOException, InterruptedException {
        Path java = Path.of(System.getProperty("java.home"), "bin", "java");
        Process process = new ProcessBuilder("" + java, "-cp", classes + System.getProperty("path.separator") + place,
                "Example").redirectErrorStream(true).start();
        String printed = new String(process.getInputStream().readAllBytes(), StandardCharsets.UTF_8);
        process.waitFor();
        return printed.replace("\r\n", "\n");
    }

    private static void remove(Path place) throws IOException {
        try (Stream<Path> all = Files.walk(place)) {
            for (Path path : all.sorted(Comparator.reverseOrder()).toList()) {
                Files.delete(path);
            }
        }
    }
}
