import java.io.ByteArrayOutputStream;
import java.io.IOException;
import java.io.PrintStream;
import java.net.URL;
import java.net.URLClassLoader;
import java.nio.charset.StandardCharsets;
import java.nio.file.Files;
import java.nio.file.Path;
import java.util.regex.Matcher;
import java.util.regex.Pattern;
import javax.tools.ToolProvider;

/** The program that README.md shows compiles, and prints what README.md says. */
public final class ReadmeTest {
    private static final Pattern PROGRAM =
            Pattern.compile("(?s)\n```java\n(.*?)```\n.*?\n```\n(.*?)```\n");

    private ReadmeTest() {
    }

    public static void main(String[] args) throws Exception {
        Bench b = new Bench();
        Matcher found = PROGRAM.matcher(Files.readString(Path.of("README.md")));
        b.same("README.md has a program and what it prints", found.find(), true);
        Path place = Files.createTempDirectory("readme");
        try {
            Path source = Files.writeString(place.resolve("Example.java"), found.group(1));
            int code = ToolProvider.getSystemJavaCompiler().run(null, null, null, "--release", "17",
                    "-cp", System.getProperty("java.class.path"), "-d", place.toString(),
                    source.toString());
            b.same("the program compiles", code, 0);
            b.same("the program", printed(place.toUri().toURL()), found.group(2));
        } finally {
            remove(place);
        }
        b.end();
    }

    private static String printed(URL place) throws Exception {
        PrintStream before = System.out;
        ByteArrayOutputStream bytes = new ByteArrayOutputStream();
        try (URLClassLoader loader = new URLClassLoader(new URL[] {place});
                PrintStream caught = new PrintStream(bytes, true, StandardCharsets.UTF_8)) {
            System.setOut(caught);
            loader.loadClass("Example").getMethod("main", String[].class)
                    .invoke(null, (Object) new String[0]);
        } finally {
            System.setOut(before);
        }
        return bytes.toString(StandardCharsets.UTF_8).replace(System.lineSeparator(), "\n");
    }

    private static void remove(Path place) throws IOException {
        for (String name : new String[] {"Example.java", "Example.class"}) {
            Files.deleteIfExists(place.resolve(name));
        }
        Files.delete(place);
    }
}
