import java.lang.reflect.Constructor;
import java.lang.reflect.Field;
import java.lang.reflect.Member;
import java.lang.reflect.Method;
import java.lang.reflect.Modifier;
import java.nio.file.Files;
import java.nio.file.Path;
import java.util.ArrayList;
import java.util.HashSet;
import java.util.List;
import java.util.Set;
import java.util.TreeSet;
import java.util.regex.Matcher;
import java.util.regex.Pattern;

/** The rules of ../shared/LANGUAGE.md that a look at the source and at the compiled class can tell. */
public final class LanguageTest {
    private static final String FACE = "act alike clear coarse count feed fewest fits follows gladdest house image "
        + "item judge may of part read reading secret shift sure taken tales tape thing trace undo wires";
    private static final List<String> FORBIDDEN = List.of(
        "\\b(throw|throws|try|catch|finally|synchronized|assert|import|package|volatile|native)\\b", "->", "::",
        "\\w+Exact\\b", "\\bSystem\\.(?!arraycopy)", "\\b(Object|Thread|Random|Runtime|Class)\\b",
        "\\bequals\\b|\\bhashCode\\b|\\btoString\\b", "@");
    private static int wrong = 0;

    public static void main(String[] args) throws Exception {
        String source = Files.readString(Path.of(args.length > 0 ? args[0] : "src/main/java/CellarMeter.java"));
        source(source);
        face();
        classes();
        System.out.println(wrong == 0 ? "the rules hold" : wrong + " rules are broken");
        if (wrong > 0) {
            System.exit(1);
        }
    }

    private static void must(boolean holds, String what) {
        if (!holds) {
            wrong++;
            System.out.println(what);
        }
    }

    private static void source(String source) {
        must(source.chars().allMatch(c -> c < 128), "a sign that is not plain");
        String bare = source.replaceAll("(?s)/\\*.*?\\*/", "").replaceAll("//[^\n]*", "");
        must(!Pattern.compile("\"\\s*\\+|\\+\\s*\"").matcher(bare).find(), "texts joined by +");
        bare = bare.replaceAll("'\\\\?.'", "0").replaceAll("\"[^\"]*\"", "TEXT");
        for (String word : FORBIDDEN) {
            Matcher m = Pattern.compile(word).matcher(bare);
            must(!m.find(), "forbidden: " + word);
        }
        methods(bare);
    }

    /** A method's head stands on one line here, and its end is the brace under the head's begin. */
    private static void methods(String source) {
        String[] lines = source.split("\n");
        Pattern head = Pattern.compile("^( {4}| {8})(public |private |static |final )*[\\w\\[\\]]+ ?\\w*\\(([^)]*)\\) \\{$");
        int seen = 0;
        for (int i = 0; i < lines.length; i++) {
            Matcher m = head.matcher(lines[i]);
            if (!m.find()) {
                continue;
            }
            seen++;
            int end = i;
            while (!lines[end].equals(m.group(1) + "}")) {
                end++;
            }
            must(end - i <= 60, "a long method: " + lines[i]);
            must(m.group(3).split(",").length <= 7, "too many parameters: " + lines[i]);
        }
        must(seen > 100, "only " + seen + " methods were seen");
    }

    private static void face() {
        Class<?> c = CellarMeter.class;
        must(Modifier.isPublic(c.getModifiers()) && Modifier.isFinal(c.getModifiers()), "the class is public and final");
        Set<String> open = new TreeSet<>();
        Set<String> hidden = new HashSet<>();
        for (Method m : c.getDeclaredMethods()) {
            must(isOpen(m) || isPrivate(m), "neither public nor private: " + m);
            (isOpen(m) ? open : hidden).add(m.getName());
        }
        must(String.join(" ", open).equals(FACE), "the face is " + open);
        for (String name : hidden) {
            must(!open.contains(name), "a private one bears a public name: " + name);
        }
        Set<String> constants = new TreeSet<>();
        for (Field f : c.getDeclaredFields()) {
            must(isOpen(f) || isPrivate(f), "neither public nor private: " + f);
            if (isOpen(f)) {
                constants.add(f.getName());
            }
        }
        must(constants.equals(Set.of("NONE", "BAD", "STATE", "FULL", "NO")), "the constants are " + constants);
        Constructor<?>[] made = c.getDeclaredConstructors();
        must(made.length == 1 && isOpen(made[0]) && made[0].getParameterCount() == 0, "one public constructor");
    }

    private static boolean isOpen(Member m) {
        return Modifier.isPublic(m.getModifiers());
    }

    private static boolean isPrivate(Member m) {
        return Modifier.isPrivate(m.getModifiers());
    }

    private static void classes() {
        List<Class<?>> all = new ArrayList<>(List.of(CellarMeter.class.getDeclaredClasses()));
        for (Class<?> c : all) {
            int how = c.getModifiers();
            must(Modifier.isStatic(how), "not static: " + c);
            must(!Modifier.isPublic(how) && !Modifier.isProtected(how), "too open: " + c);
        }
        all.add(CellarMeter.class);
        must(all.size() <= 12, "too many classes: " + all.size());
        for (Class<?> c : all) {
            int fields = 0;
            for (Field f : c.getDeclaredFields()) {
                boolean still = Modifier.isStatic(f.getModifiers());
                must(!still || Modifier.isFinal(f.getModifiers()), "static and not final: " + f);
                fields += still ? 0 : 1;
            }
            must(fields <= 20, "too many fields: " + c);
        }
    }
}
