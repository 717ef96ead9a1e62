import java.lang.reflect.Method;
import java.lang.reflect.Modifier;
import java.net.URL;
import java.net.URLClassLoader;
import java.nio.file.Files;
import java.nio.file.Path;
import java.util.ArrayList;
import java.util.List;
import java.util.Set;
import java.util.TreeSet;
import java.util.regex.Matcher;
import java.util.regex.Pattern;
import javax.tools.JavaCompiler;
import javax.tools.ToolProvider;

/**
 * The example of README.md is compiled and run as it stands there: each call that begins a line tells its
 * answer behind it, and all calls of the face are among them.
 */
public final class ReadmeTest {
    private static final Pattern BLOCK = Pattern.compile("(?s)```java\n(.*?)```");
    private static final Pattern TOLD =
        Pattern.compile("(x\\.(\\w+)\\([^;]*\\)); +// (-?\\d+|BAD|STATE|FULL|NONE)(:.*)?");
    private static final Pattern IN_TABLE = Pattern.compile("`(\\w+)\\(([^`)]*)\\)`(?=.*\\|)");

    private static int wrong = 0;

    private static void fault(String what) {
        wrong++;
        System.out.println("README.md: " + what);
    }

    public static void main(String[] args) throws Exception {
        String readme = Files.readString(Path.of("README.md"));
        Set<String> told = new TreeSet<>();
        List<String> code = new ArrayList<>();
        Matcher block = BLOCK.matcher(readme);
        while (block.find()) {
            for (String line : block.group(1).split("\n")) {
                code.add(line.startsWith("x.") ? asCheck(line, told) : line);
            }
        }
        if (!told.equals(faceNames())) {
            Set<String> missing = faceNames();
            missing.removeAll(told);
            fault("calls that the example does not tell: " + missing);
        }
        tables(readme);
        run(code);
        System.out.println(wrong == 0 ? "the example answers as it tells" : wrong + " things are not as told");
        if (wrong != 0) {
            System.exit(1);
        }
    }

    private static String asCheck(String line, Set<String> told) {
        Matcher m = TOLD.matcher(line);
        if (!m.matches()) {
            fault("no answer is told by " + line);
            return "";
        }
        told.add(m.group(2));
        String want = m.group(3).matches("[A-Z]+") ? "BehindOrgan." + m.group(3) : m.group(3) + "L";
        String name = m.group(1).replace("\\", "\\\\").replace("\"", "\\\"");
        return "due(\"" + name + "\", " + m.group(1) + ", " + want + ");";
    }

    private static Set<String> faceNames() {
        Set<String> names = new TreeSet<>();
        for (Method m : BehindOrgan.class.getDeclaredMethods()) {
            if (Modifier.isPublic(m.getModifiers())) {
                names.add(m.getName());
            }
        }
        return names;
    }

    /** A call in a table has as many parameters as in the class. */
    private static void tables(String readme) {
        int found = 0;
        for (String line : readme.split("\n")) {
            Matcher m = IN_TABLE.matcher(line);
            while (line.startsWith("|") && m.find()) {
                found++;
                int count = m.group(2).isEmpty() ? 0 : m.group(2).split(",").length;
                if (!hasCall(m.group(1), count)) {
                    fault("there is no call " + m.group());
                }
            }
        }
        if (found == 0) {
            fault("no call stands in a table");
        }
    }

    private static boolean hasCall(String name, int parameters) {
        for (Method m : BehindOrgan.class.getDeclaredMethods()) {
            if (Modifier.isPublic(m.getModifiers()) && m.getName().equals(name)
                    && m.getParameterCount() == parameters) {
                return true;
            }
        }
        return false;
    }

    private static void run(List<String> code) throws Exception {
        JavaCompiler compiler = ToolProvider.getSystemJavaCompiler();
        if (compiler == null) {
            fault("no compiler to try the example with");
            return;
        }
        Path dir = Files.createTempDirectory("readme");
        Path source = dir.resolve("ReadmeExample.java");
        Path compiled = dir.resolve("ReadmeExample.class");
        try {
            Files.writeString(source, asClass(code));
            int refused = compiler.run(null, null, null, "--release", "17", "-classpath",
                System.getProperty("java.class.path"), "-d", dir.toString(), source.toString());
            if (refused != 0) {
                fault("the example is no Java");
                return;
            }
            try (URLClassLoader loader = new URLClassLoader(new URL[] {dir.toUri().toURL()})) {
                Object others = loader.loadClass("ReadmeExample").getMethod("run").invoke(null);
                wrong += (Integer) others;
            }
        } finally {
            Files.deleteIfExists(source);
            Files.deleteIfExists(compiled);
            Files.deleteIfExists(dir);
        }
    }

    private static String asClass(List<String> code) {
        return String.join("\n",
            "public final class ReadmeExample {",
            "    private static int wrong = 0;",
            "    private static void due(String call, long got, long want) {",
            "        if (got != want) {",
            "            wrong++;",
            "            System.out.println(\"README.md: \" + call + \" answered \" + got + \", told is \" + want);",
            "        }",
            "    }",
            "    public static int run() {",
            String.join("\n", code),
            "        return wrong;",
            "    }",
            "}", "");
    }
}
