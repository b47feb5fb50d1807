import java.lang.reflect.Field;
import java.lang.reflect.Method;
import java.lang.reflect.Modifier;
import java.net.URL;
import java.net.URLClassLoader;
import java.nio.file.Files;
import java.nio.file.Path;
import java.util.ArrayList;
import java.util.List;
import java.util.regex.Matcher;
import java.util.regex.Pattern;
import java.util.stream.Stream;

/** That README.md's examples answer what stands behind them, and that it names every call and constant. */
public final class ReadmeTest {
    private static final Due DUE = new Due();
    private static final Pattern BLOCK = Pattern.compile("```java\n(.*?)```", Pattern.DOTALL);
    /** A call that stands for itself, and the answer that the comment behind it begins with. */
    private static final Pattern ASKED = Pattern.compile("(x\\.[^;]*);\\s+// (-?\\d+|true|false)(?:: .*)?");

    public static void main(String[] args) throws Exception {
        String readme = Files.readString(Path.of("README.md"));
        names(readme);
        List<String> blocks = new ArrayList<>();
        Matcher block = BLOCK.matcher(readme);
        while (block.find()) {
            blocks.add(block.group(1));
        }
        DUE.is("blocks of examples", blocks.size(), 3);
        runExamples(sourceOf(blocks));
        DUE.end();
    }

    private static void names(String readme) {
        for (Method m : NearSeats.class.getDeclaredMethods()) {
            if (Modifier.isPublic(m.getModifiers())) {
                // as many names between the brackets as the call takes
                String row = "(?s).*\\n\\| `" + m.getName() + "\\((\\w+(, \\w+){" + Math.max(0, m.getParameterCount() - 1)
                    + "})" + (m.getParameterCount() == 0 ? "{0}" : "") + "\\)` \\|.*";
                DUE.holds("README names " + m, readme.matches(row));
            }
        }
        for (Field f : NearSeats.class.getDeclaredFields()) {
            if (Modifier.isPublic(f.getModifiers())) {
                DUE.holds("README names " + f, readme.contains("\n| `" + f.getName() + "`, " + valueOf(f) + " |"));
            }
        }
        DUE.holds("README tells how to run the tests", readme.contains("\n    bash .ci/run\n"));
    }

    private static String valueOf(Field f) {
        try {
            return f.getType() == long.class ? "`Long.MIN_VALUE`" : String.valueOf(f.getInt(null));
        } catch (IllegalAccessException e) {
            return "no value";
        }
    }

    /** A class with a method that gives each line of the examples, what was answered and what is due. */
    private static String sourceOf(List<String> blocks) {
        StringBuilder source = new StringBuilder("public final class Examples {\n");
        source.append("public static void run(java.util.List<String[]> told) {\n");
        for (String block : blocks) {
            source.append("{\n");
            for (String line : block.split("\n")) {
                Matcher asked = ASKED.matcher(line.strip());
                boolean call = line.startsWith("x.");
                DUE.holds("an answer stands behind " + line, !call || asked.matches());
                if (call && asked.matches()) {
                    source.append("told.add(new String[] {\"").append(asked.group(1)).append("\", String.valueOf(")
                        .append(asked.group(1)).append("), \"").append(asked.group(2)).append("\"});\n");
                } else {
                    source.append(line).append('\n');
                }
            }
            source.append("}\n");
        }
        return source.append("}\n}\n").toString();
    }

    private static void runExamples(String source) throws Exception {
        Path made = Files.createTempDirectory("readme");
        try {
            Path file = Files.writeString(made.resolve("Examples.java"), source);
            int rc = new ProcessBuilder("javac", "-cp", System.getProperty("java.class.path"), "-d", made.toString(),
                file.toString()).inheritIO().start().waitFor();
            DUE.is("the examples' compiler", rc, 0);
            if (rc == 0) {
                compare(made);
            }
        } finally {
            remove(made);
        }
    }

    private static void compare(Path made) throws Exception {
        List<String[]> told = new ArrayList<>();
        try (URLClassLoader loader = new URLClassLoader(new URL[] {made.toUri().toURL()})) {
            loader.loadClass("Examples").getMethod("run", List.class).invoke(null, told);
        }
        DUE.holds("examples are asked", told.size() > 30);
        for (String[] one : told) {
            DUE.holds("README: " + one[0] + " answered " + one[1] + ", not " + one[2], one[1].equals(one[2]));
        }
    }

    private static void remove(Path made) throws Exception {
        try (Stream<Path> files = Files.list(made)) {
            for (Path file : files.toList()) {
                Files.delete(file);
            }
        }
        Files.delete(made);
    }
}
