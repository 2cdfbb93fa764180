import java.io.IOException;
import java.net.URL;
import java.net.URLClassLoader;
import java.nio.file.Files;
import java.nio.file.Path;
import javax.tools.ToolProvider;

/** The program that README.md shows does what its comments say (run it from the project's folder). */
final class ReadmeTest {
    private static final Check c = new Check();

    private ReadmeTest() {
    }

    public static void main(String[] args) throws IOException, ReflectiveOperationException {
        OakYard yard = (OakYard) compiled().getMethod("run").invoke(null);
        c.is("the ship is afloat", yard.led(0, 0), 2);
        c.is("its one need is fit", yard.led(0, 3), 1);
        c.is("the plank's length", yard.piece(0, 2), 47);
        c.is("its plank went in by a warrant", yard.led(0, 8), 0);
        c.is("nothing is there to be undone", yard.undo(), false);
        c.is("day", yard.count(0), 3);
        namesAllTests();
        c.end();
    }

    private static Class<?> compiled() throws IOException, ReflectiveOperationException {
        String readme = Files.readString(Path.of("README.md"));
        int begin = readme.indexOf("```java\n") + 8;
        String calls = readme.substring(begin, readme.indexOf("```", begin));
        Path out = Files.createTempDirectory("readme");
        Path source = out.resolve("ReadmeExample.java");
        Files.writeString(source, "public final class ReadmeExample { public static OakYard run() {\n" + calls
                + "return yard; } }\n");
        int failed = ToolProvider.getSystemJavaCompiler().run(null, null, null, "-cp", System.getProperty("java.class.path"),
                "-d", out.toString(), source.toString());
        c.is("the example compiles", failed, 0);
        try (URLClassLoader loader = new URLClassLoader(new URL[] {out.toUri().toURL()})) {
            Class<?> example = loader.loadClass("ReadmeExample");
            example.getMethods();
            return example;
        }
    }

    private static void namesAllTests() throws IOException {
        String readme = Files.readString(Path.of("README.md"));
        try (var files = Files.newDirectoryStream(Path.of("src/test/java"), "*Test.java")) {
            for (Path file : files) {
                String name = file.getFileName().toString().replace(".java", "");
                c.is("README.md names " + name, readme.contains("`" + name + "`"), true);
            }
        }
    }
}
