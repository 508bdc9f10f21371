import java.io.IOException;
import java.lang.reflect.Constructor;
import java.lang.reflect.Field;
import java.lang.reflect.Method;
import java.lang.reflect.Modifier;
import java.nio.file.Files;
import java.nio.file.Path;
import java.util.TreeSet;

/** The public face of the document, and what LANGUAGE.md rules out so far as it can be seen by names. */
public final class FaceTest {
    private static final Checks c = new Checks("FaceTest");
    private static final String FACE = "int shop int int int int;int wanted int;int seen int;int ofTube int int;"
        + "int remember int int;int near int;int stock int int;int far int;int search int int int int int;"
        + "int sieve int int int int int;int quick int;int signs int;int sew int int;int set int;long tin int int;"
        + "int half;int reading int boolean;int back int;int memories int;int kinds int;int colours int;int nears;"
        + "int sheet int int int;int lose int;int put int int int;long cell int int int;"
        + "int copy int int int int int;int tell int;int rattle int;int as int int;int trace;int fault;int many int";
    private static final String[] RULED_OUT = {"throw", "throws", "try", "catch", "finally", "synchronized", "assert",
        "->", "::", "double", "float", "var", "Random", "System.out", "System.nanoTime", "Exact(", "toString",
        "hashCode", "import java.io", "import java.util.function"};

    public static void main(String[] args) throws IOException {
        Class<?> it = ButtonMatch.class;
        c.due("public final", it.getModifiers(), Modifier.PUBLIC | Modifier.FINAL);
        methods(it);
        others(it);
        source();
        document();
        c.finish();
    }

    private static void methods(Class<?> it) {
        TreeSet<String> face = new TreeSet<>(java.util.List.of(FACE.split(";")));
        TreeSet<String> names = new TreeSet<>();
        for (String line : face) {
            names.add(line.split(" ")[1]);
        }
        int met = 0;
        for (Method m : it.getDeclaredMethods()) {
            StringBuilder line = new StringBuilder(m.getReturnType() + " " + m.getName());
            for (Class<?> p : m.getParameterTypes()) {
                line.append(' ').append(p);
            }
            boolean due = face.contains(line.toString());
            met += due ? 1 : 0;
            c.due("visibility of " + line, m.getModifiers() & ~Modifier.STATIC,
                    due ? Modifier.PUBLIC : Modifier.PRIVATE);
            c.due("a name of the face: " + line, names.contains(m.getName()) ? 1 : 0, due ? 1 : 0);
            c.due("parameters of " + line, m.getParameterCount() > 7 ? 1 : 0, 0);
        }
        c.due("methods of the face", met, face.size());
        for (Class<?> inside : it.getDeclaredClasses()) {
            c.due("static: " + inside, inside.getModifiers() & Modifier.STATIC, Modifier.STATIC);
            for (Method m : inside.getDeclaredMethods()) {
                c.due("a name of the face inside: " + m, names.contains(m.getName()) ? 1 : 0, 0);
            }
        }
    }

    private static void others(Class<?> it) {
        c.due("constructors", it.getDeclaredConstructors().length, 1);
        for (Constructor<?> made : it.getDeclaredConstructors()) {
            c.due("constructor", made.getModifiers(), Modifier.PUBLIC);
        }
        TreeSet<String> constants = new TreeSet<>(java.util.List.of("UNKNOWN", "OUTSIDE", "STATE", "FULL", "NONE",
                "LOST"));
        for (Field f : it.getDeclaredFields()) {
            boolean open = constants.remove(f.getName());
            c.due("visibility of " + f.getName(), f.getModifiers() & (Modifier.PUBLIC | Modifier.PRIVATE),
                    open ? Modifier.PUBLIC : Modifier.PRIVATE);
            boolean state = (f.getModifiers() & Modifier.STATIC) != 0 && (f.getModifiers() & Modifier.FINAL) == 0;
            c.due("static state: " + f.getName(), state ? 1 : 0, 0);
        }
        c.due("constants that are missing", constants.size(), 0);
    }

    /** FACE is what the document's interface tells, call by call, in its order. */
    private static void document() throws IOException {
        if (!Files.exists(Document.PATH)) {
            System.out.println("FaceTest: " + Document.PATH + " is missing: its face is not looked at");
            return;
        }
        StringBuilder told = new StringBuilder();
        for (String line : Document.face()) {
            if (line.matches("public (int|long) .*")) {
                String types = line.replaceAll("^public |;$", "").replaceAll("(int|long|boolean) \\w+(?=[,)])", "$1");
                told.append(told.isEmpty() ? "" : ";").append(types.replaceAll("[(), ]+", " ").strip());
            }
        }
        c.same("the document's face", told.toString(), FACE);
    }

    /** Comments do not count: only what stands ahead of them in a line, and no line of a block of them. */
    private static void source() throws IOException {
        Path path = Path.of("src/main/java/ButtonMatch.java");
        for (String whole : Files.readAllLines(path)) {
            String line = whole.replaceAll("//.*|^\\s*/?\\*.*", "");
            for (String word : RULED_OUT) {
                boolean letters = word.matches("[a-zA-Z]+");
                boolean met = letters ? line.matches(".*\\b" + word + "\\b.*") : line.contains(word);
                c.due(word + " in: " + line, met ? 1 : 0, 0);
            }
        }
    }
}
