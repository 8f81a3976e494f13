import java.io.ByteArrayOutputStream;
import java.io.IOException;
import java.io.PrintStream;
import java.lang.reflect.Method;
import java.lang.reflect.Modifier;
import java.net.URL;
import java.net.URLClassLoader;
import java.nio.charset.StandardCharsets;
import java.nio.file.DirectoryStream;
import java.nio.file.Files;
import java.nio.file.Path;
import javax.tools.JavaCompiler;
import javax.tools.ToolProvider;

/** README.md: its example compiles and prints what is told there, and each call of the face is named in it. */
public final class ReadmeTest {
    public static void main(String[] args) throws IOException, ReflectiveOperationException {
        Path root = Path.of(System.getProperty("project.root", "."));
        String readme = Files.readString(root.resolve("README.md"));
        String told = block(readme, "text");
        String printed = printed(block(readme, "java"), root);
        Due.due("the example prints\n" + printed + "and README.md tells\n" + told, printed.equals(told), true);
        for (Method m : LeafVotes.class.getDeclaredMethods()) {
            if (Modifier.isPublic(m.getModifiers())) {
                boolean named = readme.contains("`" + m.getName() + "`") || readme.contains("`" + m.getName() + "(");
                Due.due("README.md names " + m.getName(), named, true);
            }
        }
        Due.due("README.md says how tests are run", readme.contains(".ci/run"), true);
        try (DirectoryStream<Path> tests = Files.newDirectoryStream(root.resolve("src/test/java"), "*Test.java")) {
            for (Path test : tests) {
                String name = test.getFileName().toString().replace(".java", "");
                Due.due("README.md names " + name, readme.contains("`" + name + "`"), true);
            }
        }
        Due.close();
    }

    private static String block(String readme, String sort) {
        int from = readme.indexOf("```" + sort + "\n");
        int to = readme.indexOf("\n```\n", from + 1);
        Due.due("README.md has a block of " + sort, from >= 0 && to > from, true);
        return from >= 0 && to > from ? readme.substring(from + sort.length() + 4, to + 1) : "";
    }

    private static String printed(String example, Path root) throws IOException, ReflectiveOperationException {
        Path main = root.resolve("src/main/java/LeafVotes.java");
        Path out = Files.createDirectories(root.resolve("build/readme"));
        Path source = out.resolve("Example.java");
        Files.writeString(source, example);
        JavaCompiler compiler = ToolProvider.getSystemJavaCompiler();
        int exit = compiler.run(null, null, null, "-d", out.toString(), main.toString(), source.toString());
        Due.due("javac of README.md's example", exit, 0);
        PrintStream before = System.out;
        ByteArrayOutputStream bytes = new ByteArrayOutputStream();
        try (URLClassLoader loader = new URLClassLoader(new URL[] {out.toUri().toURL()}, null)) {
            System.setOut(new PrintStream(bytes, true, StandardCharsets.UTF_8));
            loader.loadClass("Example").getMethod("main", String[].class).invoke(null, (Object) new String[0]);
        } finally {
            System.setOut(before);
        }
        return bytes.toString(StandardCharsets.UTF_8).replace("\r", "");
    }
}
