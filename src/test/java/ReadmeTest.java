import java.io.ByteArrayOutputStream;
import java.io.IOException;
import java.io.PrintStream;
import java.net.URL;
import java.net.URLClassLoader;
import java.nio.file.Files;
import java.nio.file.Path;
import java.util.List;
import java.util.TreeSet;
import java.util.regex.Matcher;
import java.util.regex.Pattern;
import javax.tools.ToolProvider;

/** README.md: its program prints what stands behind it, every call is told, every test and no other is named. */
public final class ReadmeTest {
    private static final Checks c = new Checks("ReadmeTest");

    public static void main(String[] args) throws Exception {
        String readme = Files.readString(Path.of("README.md"));
        c.same("the program prints", printed(block(readme, "java")), block(readme, "text"));
        calls(readme);
        tests(readme);
        c.finish();
    }

    /** What stands in the first block of a sort. */
    private static String block(String readme, String sort) {
        Matcher m = Pattern.compile("```" + sort + "\n(.*?)```", Pattern.DOTALL).matcher(readme);
        return m.find() ? m.group(1) : "";
    }

    private static String printed(String program) throws Exception {
        Path made = Files.createTempDirectory("readme");
        PrintStream out = System.out;
        try {
            Path source = Files.writeString(made.resolve("Coat.java"), program);
            int refused = ToolProvider.getSystemJavaCompiler().run(null, null, null, "--release", "17", "-cp",
                    System.getProperty("java.class.path"), "-d", made.toString(), source.toString());
            c.due("javac of the program", refused, 0);
            ByteArrayOutputStream printed = new ByteArrayOutputStream();
            try (URLClassLoader loader = new URLClassLoader(new URL[] {made.toUri().toURL()})) {
                System.setOut(new PrintStream(printed, true));
                loader.loadClass("Coat").getMethod("main", String[].class).invoke(null, (Object) new String[0]);
            }
            return printed.toString().replace("\r\n", "\n");
        } finally {
            System.setOut(out);
            remove(made);
        }
    }

    private static void remove(Path made) throws IOException {
        for (Path file : List.of(made.resolve("Coat.java"), made.resolve("Coat.class"), made)) {
            Files.deleteIfExists(file);
        }
    }

    /** Each call of the face stands in the README with the names of its numbers. */
    private static void calls(String readme) throws IOException {
        if (!Files.exists(Document.PATH)) {
            System.out.println("ReadmeTest: " + Document.PATH + " is missing: the calls are not looked at");
            return;
        }
        for (String line : Document.face()) {
            if (line.matches("public (int|long) .*\\);")) {
                String call = line.replaceAll("^public \\w+ |;$", "").replaceAll("(int|long|boolean) ", "");
                c.due("README.md tells " + call, readme.contains("`" + call + "`") ? 1 : 0, 1);
            }
        }
    }

    private static void tests(String readme) throws IOException {
        TreeSet<String> there = new TreeSet<>();
        try (var files = Files.list(Path.of("src/test/java"))) {
            files.map(file -> file.getFileName().toString()).filter(name -> name.endsWith("Test.java"))
                    .forEach(name -> there.add(name.substring(0, name.length() - 5)));
        }
        TreeSet<String> named = new TreeSet<>();
        Matcher m = Pattern.compile("(?m)^\\| (\\w+Test) \\|").matcher(readme);
        while (m.find()) {
            named.add(m.group(1));
        }
        c.same("the tests in README.md's table", named.toString(), there.toString());
    }
}
