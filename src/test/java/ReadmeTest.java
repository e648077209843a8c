import java.io.File;
import java.io.IOException;
import java.lang.reflect.InvocationTargetException;
import java.lang.reflect.Method;
import java.lang.reflect.Modifier;
import java.net.URL;
import java.net.URLClassLoader;
import java.nio.file.Files;
import java.nio.file.Path;
import java.util.ArrayList;
import java.util.List;
import java.util.Set;
import java.util.TreeSet;
import java.util.regex.Matcher;
import java.util.regex.Pattern;
import java.util.stream.Stream;
import javax.tools.JavaCompiler;
import javax.tools.ToolProvider;

/**
 * README.md holds for the class as it stands: its pieces of Java compile and answer as they say, each call of
 * the face is shown there, and it names the tests that there are.
 */
public final class ReadmeTest {
    private static final Pattern PIECE = Pattern.compile("(?ms)^```java\n(.*?)^```$");
    private static final Pattern ANSWERED = Pattern.compile("(\\S.*);\\s*// (-?\\d+)(?::.*)?");
    private static final Pattern CALL = Pattern.compile("\\bx\\.(\\w+)\\(");
    private static final Pattern TEST = Pattern.compile("`(\\w+Test)`");
    private static final Pattern ROW = Pattern.compile("`(?:x\\.)?(\\w+)\\(");

    private static int looked = 0;
    private static int wrong = 0;

    public static void main(String[] args) throws Exception {
        Path readme = Path.of(args.length > 2 ? args[2] : "README.md");
        Path tests = Path.of("src/test/java");
        String page = Files.readString(readme);
        run(program(page));
        lookForCalls(page);
        lookForTests(page, tests);
        System.out.println(looked + " answers of the page looked at, " + wrong + " wrong");
        if (wrong > 0 || looked == 0) {
            System.exit(1);
        }
    }

    /** Called by the page's program, for each line that tells its answer. */
    public static void due(String line, long got, long due) {
        looked++;
        if (got != due) {
            tell(line + " answered " + got);
        }
    }

    private static void tell(String what) {
        wrong++;
        System.out.println("README.md: " + what);
    }

    /** All pieces of the page as one class: those that begin with static are its methods. */
    private static String program(String page) {
        StringBuilder members = new StringBuilder();
        StringBuilder body = new StringBuilder();
        for (Matcher piece = PIECE.matcher(page); piece.find();) {
            if (piece.group(1).startsWith("static ")) {
                members.append(piece.group(1));
            } else {
                piece.group(1).lines().forEach(line -> body.append(withLook(line)).append('\n'));
            }
        }
        return "final class Page {\n" + members + "public static void main() {\n" + body + "}\n}\n";
    }

    private static String withLook(String line) {
        Matcher answered = ANSWERED.matcher(line);
        if (!answered.matches()) {
            if (line.contains("//")) {
                tell("no answer can be read in: " + line);
            }
            return line;
        }
        String told = line.replace("\\", "\\\\").replace("\"", "\\\"");
        return "ReadmeTest.due(\"" + told + "\", " + answered.group(1) + ", " + answered.group(2) + "L);";
    }

    private static void run(String program) throws Exception {
        JavaCompiler javac = ToolProvider.getSystemJavaCompiler();
        if (javac == null) {
            tell("its Java can't be looked at: this java has no javac");
            return;
        }
        Path room = Files.createTempDirectory("page");
        Path source = room.resolve("Page.java");
        Files.writeString(source, program);
        String classes = System.getProperty("java.class.path");
        int fault = javac.run(null, System.out, System.out, "-cp", classes, "-d", room.toString(), source.toString());
        if (fault != 0) {
            tell("its Java does not compile");
        } else {
            call(room);
        }
        for (File file : room.toFile().listFiles()) {
            Files.delete(file.toPath());
        }
        Files.delete(room);
    }

    private static void call(Path room) throws Exception {
        URL[] place = {room.toUri().toURL()};
        try (URLClassLoader loader = new URLClassLoader(place, ReadmeTest.class.getClassLoader())) {
            Method main = loader.loadClass("Page").getMethod("main");
            main.setAccessible(true);
            main.invoke(null);
        } catch (InvocationTargetException e) {
            tell("its Java throws " + e.getCause());
        }
    }

    private static void lookForCalls(String page) {
        Set<String> shown = new TreeSet<>();
        for (Matcher piece = PIECE.matcher(page); piece.find();) {
            shown.addAll(all(CALL, piece.group(1)));
        }
        String words = PIECE.matcher(page).replaceAll("");
        Set<String> told = all(ROW, words);
        for (Method method : CellarMeter.class.getDeclaredMethods()) {
            if (!Modifier.isPublic(method.getModifiers())) {
                continue;
            }
            String name = method.getName();
            if (!shown.contains(name)) {
                tell("no piece of Java shows " + name);
            }
            if (!told.contains(name)) {
                tell("no sentence tells of " + name);
            }
            if (!words.contains("`" + name + "`")) {
                tell("no chapter is headed " + name);
            }
        }
    }

    private static void lookForTests(String page, Path folder) throws IOException {
        Set<String> named = all(TEST, page);
        Set<String> there = new TreeSet<>();
        try (Stream<Path> files = Files.list(folder)) {
            List<Path> each = new ArrayList<>(files.toList());
            for (Path file : each) {
                String name = file.getFileName().toString();
                if (name.endsWith("Test.java")) {
                    there.add(name.substring(0, name.length() - 5));
                }
            }
        }
        if (!named.equals(there)) {
            tell("it names the tests " + named + ", but there are " + there);
        }
    }

    private static Set<String> all(Pattern pattern, String text) {
        Set<String> found = new TreeSet<>();
        for (Matcher one = pattern.matcher(text); one.find();) {
            found.add(one.group(1));
        }
        return found;
    }
}
