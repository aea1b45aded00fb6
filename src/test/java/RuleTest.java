import java.io.IOException;
import java.lang.reflect.Constructor;
import java.lang.reflect.Field;
import java.lang.reflect.Method;
import java.lang.reflect.Modifier;
import java.nio.file.Files;
import java.nio.file.Path;
import java.util.HashSet;
import java.util.List;
import java.util.Set;
import java.util.regex.Matcher;
import java.util.regex.Pattern;

/** Those rules of ../shared/LANGUAGE.md that can be counted, or seen from the words of the source. */
final class RuleTest {
    private static final int MOST_CLASSES = 12;
    private static final int MOST_FIELDS = 20;
    private static final int MOST_PARAMETERS = 7;
    private static final int MOST_LINES = 60;
    private static final List<String> IMPORTS =
        List.of("import java.util.ArrayList;", "import java.util.NoSuchElementException;");
    /** What no line of the program may hold: rules 2, 4, 5, 6 and 13. */
    private static final Pattern BANNED = Pattern.compile("->|::|\\bfinally\\b|\\bassert\\b|\\bsynchronized\\b|static \\{"
        + "|Exact\\(|\\bhashCode\\b|\\btoString\\b|\\bgetMessage\\b|\\bSystem\\.(?!arraycopy)|\\bThread\\b|\\bRandom\\b");
    private static final Pattern METHOD = Pattern.compile("( {4}| {8})(?!for|if|else|while|switch|do|try)\\w.*\\) (throws .*)?\\{");
    private static final Set<Class<?>> TYPES = Set.of(int.class, long.class, boolean.class, char.class, String.class,
        int[].class, boolean[].class, java.util.ArrayList.class);

    private RuleTest() {
    }

    static void run() {
        Class<?>[] inside = Underpaint.class.getDeclaredClasses();
        Check.yes("rule 11 classes", inside.length + 1 <= MOST_CLASSES);
        Set<String> face = new HashSet<>();
        for (Method m : Underpaint.class.getDeclaredMethods()) {
            if (Modifier.isPublic(m.getModifiers())) {
                face.add(m.getName());
            }
        }
        check(Underpaint.class);
        for (Class<?> c : inside) {
            check(c);
            int modifiers = c.getModifiers();
            Check.yes("rule 2 " + c, Modifier.isStatic(modifiers) && Modifier.isPrivate(modifiers));
            Check.same("rule 2 classes inside " + c, c.getDeclaredClasses().length, 0);
            for (Method m : c.getDeclaredMethods()) {
                Check.no("rule 1 a public name " + m, face.contains(m.getName()));
            }
        }
        source();
    }

    private static void check(Class<?> c) {
        int fields = 0;
        for (Field f : c.getDeclaredFields()) {
            boolean isStatic = Modifier.isStatic(f.getModifiers());
            fields += isStatic ? 0 : 1;
            Check.yes("rule 5 " + f, !isStatic || Modifier.isFinal(f.getModifiers()));
            Check.yes("rule 3 " + f, isPlain(f.getType()));
        }
        Check.yes("rule 11 fields of " + c, fields <= MOST_FIELDS);
        for (Method m : c.getDeclaredMethods()) {
            boolean isFace = Modifier.isPublic(m.getModifiers());
            Check.yes("rule 11 parameters of " + m, isFace || m.getParameterCount() <= MOST_PARAMETERS);
        }
        for (Constructor<?> made : c.getDeclaredConstructors()) {
            Check.yes("rule 11 parameters of " + made, made.getParameterCount() <= MOST_PARAMETERS);
        }
    }

    private static boolean isPlain(Class<?> type) {
        Class<?> single = type.isArray() ? type.getComponentType() : type;
        return TYPES.contains(type) || single.getName().startsWith("Underpaint$");
    }

    private static void source() {
        List<String> lines = read();
        Check.no("the source has lines", lines.isEmpty());
        for (int i = 0; i < lines.size(); i++) {
            String line = lines.get(i);
            boolean isComment = line.trim().startsWith("/") || line.trim().startsWith("*");
            boolean isImport = line.startsWith("import ");
            boolean isFine = isComment || !BANNED.matcher(line).find();
            isFine = isFine && !line.startsWith("package ") && (!isImport || IMPORTS.contains(line));
            Check.tell(isFine, "line " + (i + 1) + " keeps to the rules", line, "what the rules leave");
            Matcher method = METHOD.matcher(line);
            if (method.matches()) {
                int end = i + lines.subList(i, lines.size()).indexOf(method.group(1) + "}");
                Check.yes("rule 11 length of " + line, end > i && end - i <= MOST_LINES);
            }
        }
    }

    private static List<String> read() {
        try {
            return Files.readAllLines(Path.of("src/main/java/Underpaint.java"));
        } catch (IOException e) {
            return List.of();
        }
    }
}
