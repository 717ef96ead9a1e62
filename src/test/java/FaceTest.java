import java.lang.reflect.Constructor;
import java.lang.reflect.Field;
import java.lang.reflect.Method;
import java.lang.reflect.Modifier;
import java.nio.file.Files;
import java.nio.file.Path;
import java.util.Arrays;
import java.util.Set;
import java.util.TreeSet;
import java.util.regex.Matcher;
import java.util.regex.Pattern;

/** The public face is the document's and no more; what LANGUAGE.md rules out is not in the file. */
public final class FaceTest {
    private static final String[] METHODS = {
        "int type(int)", "int clear()", "int church()", "int pew(int, int)", "int now(int)", "int line()",
        "int verse()", "int ahead(int)", "int choir(int)", "int knows(int, int)", "int waits(int)", "int undo()",
        "int behind(int, int)", "int asleep(int)", "int rest()", "int playAhead(int, int)", "int seat(int, int)",
        "int knowers(int, int)", "int pulls(int)", "int change(int)", "int gaps(int)", "int hear(int, int, int)",
        "int forget()", "int waited()", "long odds(int, int, int, int, int)", "int rate(int, int)",
        "int keep(int)", "int back(int)", "int count(int)", "long trace()"};
    private static final String[] FIELDS = {"BAD -1000001", "FULL -1000003", "NONE -1000009", "STATE -1000002"};
    private static final String RULED_OUT = "\\b(throw|throws|try|catch|synchronized|assert|import|package|new int\\[\\]\\[\\]"
        + "|\\w+Exact|hashCode|toString|System|Object|Random|Thread|float|double)\\b|->|::"
        + "|\\b(Integer|Long|Math)\\.[A-Z]\\w*";

    private static int wrong = 0;

    private static void due(String what, Object got, Object want) {
        if (!got.equals(want)) {
            wrong++;
            System.out.println(what + ": " + got + ", due is " + want);
        }
    }

    public static void main(String[] args) throws Exception {
        Class<?> face = BehindOrgan.class;
        due("the class", Modifier.toString(face.getModifiers()), "public final");
        Constructor<?>[] constructors = face.getDeclaredConstructors();
        due("constructors", constructors.length, 1);
        due("constructor", constructors[0].toString(), "public BehindOrgan()");
        methods(face);
        fields(face);
        nested(face);
        sizes(face);
        for (Class<?> c : face.getDeclaredClasses()) {
            sizes(c);
        }
        file();
        System.out.println(wrong == 0 ? "the face is as due" : wrong + " things are not as due");
        if (wrong != 0) {
            System.exit(1);
        }
    }

    private static void methods(Class<?> face) {
        Set<String> open = new TreeSet<>();
        Set<String> names = new TreeSet<>();
        for (Method m : face.getDeclaredMethods()) {
            if (Modifier.isPublic(m.getModifiers())) {
                String parameters = Arrays.toString(m.getParameterTypes()).replace("[", "(").replace("]", ")");
                open.add(m.getReturnType() + " " + m.getName() + parameters);
                names.add(m.getName());
            }
        }
        due("public methods", open, new TreeSet<>(Arrays.asList(METHODS)));
        for (Method m : face.getDeclaredMethods()) {
            if (!Modifier.isPublic(m.getModifiers())) {
                due(m + " is private", Modifier.isPrivate(m.getModifiers()), true);
                due(m + " has a public one's name", names.contains(m.getName()), false);
            }
        }
    }

    private static void fields(Class<?> face) throws Exception {
        Set<String> open = new TreeSet<>();
        for (Field f : face.getDeclaredFields()) {
            int is = f.getModifiers();
            if (Modifier.isPublic(is)) {
                due(f + " is static final", Modifier.isStatic(is) && Modifier.isFinal(is), true);
                open.add(f.getName() + " " + f.getInt(null));
            } else {
                due(f + " is private", Modifier.isPrivate(is), true);
                due(f + " is final if static", !Modifier.isStatic(is) || Modifier.isFinal(is), true);
            }
        }
        due("public constants", open, new TreeSet<>(Arrays.asList(FIELDS)));
    }

    private static void nested(Class<?> face) {
        Class<?>[] all = face.getDeclaredClasses();
        due("at most twelve classes", all.length < 12, true);
        for (Class<?> c : all) {
            int is = c.getModifiers();
            due(c + " is static", Modifier.isStatic(is), true);
            due(c + " is not open", Modifier.isPublic(is) || Modifier.isProtected(is), false);
            due(c + " has no class of its own", c.getDeclaredClasses().length, 0);
        }
    }

    private static void sizes(Class<?> c) {
        for (Method m : c.getDeclaredMethods()) {
            due(m + " has at most seven parameters", m.getParameterCount() <= 7, true);
        }
        int fields = 0;
        for (Field f : c.getDeclaredFields()) {
            fields += Modifier.isStatic(f.getModifiers()) ? 0 : 1;
        }
        due(c + " has at most twenty fields", fields <= 20, true);
    }

    private static void file() throws Exception {
        String text = Files.readString(Path.of("src/main/java/BehindOrgan.java"));
        String code = text.replaceAll("(?s)/\\*.*?\\*/", "").replaceAll("//[^\n]*", "");
        Matcher found = Pattern.compile(RULED_OUT).matcher(code);
        while (found.find()) {
            due("in the file", found.group(), "nothing that is ruled out");
        }
    }
}
