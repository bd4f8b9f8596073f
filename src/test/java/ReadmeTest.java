import java.io.ByteArrayOutputStream;
import java.io.IOException;
import java.lang.reflect.Method;
import java.lang.reflect.Modifier;
import java.net.URL;
import java.net.URLClassLoader;
import java.nio.file.Files;
import java.nio.file.Path;
import java.util.ArrayList;
import java.util.List;
import java.util.Set;
import java.util.TreeSet;
import java.util.regex.Matcher;
import java.util.regex.Pattern;
import javax.tools.ToolProvider;

/**
 * The examples of README.md: each is compiled as it stands there and run, and what a call answers must be what stands
 * behind it. Between them they call every method. README.md names every file of src/test/java, and no other.
 */
public final class ReadmeTest {
    private static final Path README = Path.of("README.md"), TESTS = Path.of("src/test/java");
    private static final Pattern EXAMPLE = Pattern.compile("```java\n(.*?)```", Pattern.DOTALL);
    private static final Pattern ANSWERED = Pattern.compile("((?:int (\\w+) = )?(room\\.(\\w+)\\(.*\\)));"
            + " +// (-?\\d+|NONE|UNKNOWN|OUTSIDE|NOT|FULL)(:.*)?");
    private static int wrong = 0;

    private ReadmeTest() { }

    private static void see(boolean good, String what) {
        if (!good) {
            wrong++;
            System.out.println(README + ": " + what);
        }
    }

    public static void main(String[] args) throws Exception {
        String readme = Files.readString(README);
        List<String> examples = new ArrayList<>();
        Matcher m = EXAMPLE.matcher(readme);
        while (m.find()) {
            examples.add(m.group(1));
        }
        Set<String> answered = new TreeSet<>();
        StringBuilder program = new StringBuilder("public class Examples {\n");
        for (int k = 0; k < examples.size(); k++) {
            program.append(methodOf(k, examples.get(k), answered));
        }
        run(program.append("}\n").toString(), examples.size());
        see(answered.equals(face()), "answers stand behind " + answered + " alone");
        files(readme);
        System.out.println(examples.size() + " examples, " + (wrong == 0 ? "all answer so" : wrong + " things wrong"));
        if (wrong != 0) {
            System.exit(1);
        }
    }

    /** An example as a method: behind each call with an answer it is held against what the call answered. */
    private static String methodOf(int number, String example, Set<String> answered) {
        StringBuilder b = new StringBuilder("public static void example" + number + "(StringBuilder said) {\n");
        int lines = 0;
        for (String line : example.split("\n")) {
            Matcher m = ANSWERED.matcher(line.strip());
            if (!m.matches()) {
                see(!line.matches(".*room\\..*//.*"), "no answer can be read in: " + line);
                b.append(line).append('\n');
                continue;
            }
            lines++;
            answered.add(m.group(4));
            String got = m.group(2) == null ? "got" + lines : m.group(2);
            String want = m.group(5).matches("[A-Z]+") ? "TrunkRoom." + m.group(5) : m.group(5);
            b.append(m.group(2) == null ? "int " + got + " = " : "").append(m.group(1)).append(";\n");
            b.append("if (" + got + " != " + want + ") said.append(\"").append(m.group(3)).append(" answers \" + ")
                    .append(got).append(" + \", and not ").append(m.group(5)).append("\\n\");\n");
        }
        see(lines > 0, "an example without answers");
        return b.append("}\n").toString();
    }

    private static void run(String program, int examples) throws Exception {
        Path dir = Files.createTempDirectory("readme");
        Path file = Files.writeString(dir.resolve("Examples.java"), program);
        ByteArrayOutputStream faults = new ByteArrayOutputStream();
        int code = ToolProvider.getSystemJavaCompiler().run(null, null, faults, "-d", dir.toString(), "-cp",
                System.getProperty("java.class.path"), file.toString());
        see(code == 0, "the examples are no Java: " + faults);
        try (URLClassLoader loader = new URLClassLoader(new URL[] {dir.toUri().toURL()})) {
            for (int k = 0; k < examples && code == 0; k++) {
                StringBuilder said = new StringBuilder();
                Class<?> all = loader.loadClass("Examples");
                all.getMethod("example" + k, StringBuilder.class).invoke(null, said);
                see(said.length() == 0, said.toString());
            }
        }
        for (Path p : Files.list(dir).toList()) {
            Files.delete(p);
        }
        Files.delete(dir);
    }

    private static Set<String> face() {
        Set<String> names = new TreeSet<>();
        for (Method method : TrunkRoom.class.getDeclaredMethods()) {
            if (Modifier.isPublic(method.getModifiers())) {
                names.add(method.getName());
            }
        }
        return names;
    }

    private static void files(String readme) throws IOException {
        String how = readme.substring(Math.max(0, readme.indexOf("## How to run its tests")));
        for (Path p : Files.list(TESTS).toList()) {
            String name = p.getFileName().toString().replace(".java", "");
            see(how.contains("`" + name + "`"), "does not tell of " + name);
        }
        Matcher m = Pattern.compile("`(\\w+Test)`").matcher(how);
        while (m.find()) {
            see(Files.exists(TESTS.resolve(m.group(1) + ".java")), "tells of " + m.group(1) + ", which there is not");
        }
    }
}
