import java.io.IOException;
import java.lang.reflect.Executable;
import java.lang.reflect.Field;
import java.lang.reflect.Method;
import java.lang.reflect.Modifier;
import java.nio.file.Files;
import java.nio.file.Path;
import java.util.ArrayList;
import java.util.List;
import java.util.Set;
import java.util.TreeSet;
import java.util.regex.Matcher;
import java.util.regex.Pattern;

/** What of the rules in LANGUAGE.md a program can look at; a check is named after its rule. */
public final class LanguageTests {
    private static final Path SOURCE = Path.of("src/main/java/WaitingWrites.java");
    private static final int MOST_CLASSES = 12;
    private static final int MOST_FIELDS = 20;
    private static final int MOST_PARAMETERS = 7;
    private static final int MOST_LINES = 60;
    private static int wrong = 0;

    public static void main(String[] args) throws IOException {
        String source = Files.readString(SOURCE);
        String code = source.replaceAll("(?s)/\\*.*?\\*/", "").replaceAll("//[^\n]*", "");
        names();
        statics();
        words(code);
        library(code);
        sizes(source);
        System.out.println(wrong == 0 ? "the class keeps to the rules" : wrong + " are wrong");
        if (wrong != 0) {
            System.exit(1);
        }
    }

    private static void check(int rule, String what, boolean holds) {
        if (!holds) {
            wrong++;
            System.out.println("rule " + rule + " does not hold: " + what);
        }
    }

    private static List<Class<?>> classes() {
        List<Class<?>> all = new ArrayList<>();
        all.add(WaitingWrites.class);
        all.addAll(List.of(WaitingWrites.class.getDeclaredClasses()));
        return all;
    }

    /** Also the methods of classes inside bear no name of the face, so that none can be mistaken. */
    private static void names() {
        Set<String> face = new TreeSet<>();
        for (Method method : WaitingWrites.class.getDeclaredMethods()) {
            if (Modifier.isPublic(method.getModifiers())) {
                face.add(method.getName());
            }
        }
        check(1, "a face", !face.isEmpty());
        for (Class<?> type : classes()) {
            for (Method method : type.getDeclaredMethods()) {
                boolean ofTheFace = type == WaitingWrites.class
                        && Modifier.isPublic(method.getModifiers());
                check(1, "another name than that of " + method,
                        ofTheFace || !face.contains(method.getName()));
            }
        }
        for (Class<?> inside : WaitingWrites.class.getDeclaredClasses()) {
            int modifiers = inside.getModifiers();
            check(1, "not seen outside: " + inside,
                    !Modifier.isPublic(modifiers) && !Modifier.isProtected(modifiers));
            check(2, "static: " + inside, Modifier.isStatic(modifiers));
            check(2, "no class in " + inside, inside.getDeclaredClasses().length == 0);
        }
    }

    private static void statics() {
        Set<Class<?>> constants = Set.of(int.class, long.class, boolean.class, char.class,
                String.class, int[].class, long[].class, char[].class, byte[].class);
        for (Class<?> type : classes()) {
            for (Field field : type.getDeclaredFields()) {
                if (Modifier.isStatic(field.getModifiers())) {
                    check(5, "final: " + field, Modifier.isFinal(field.getModifiers()));
                    check(5, "a constant: " + field, constants.contains(field.getType()));
                }
            }
        }
    }

    private static void words(String code) {
        refuse(2, code, "->|::");
        refuse(3, code, "\\[\\s*\\]\\s*\\[\\s*\\]\\s*\\[");
        refuse(5, code, "\\bstatic\\s*\\{");
        refuse(6, code, "\\b(throw|throws|try|catch|finally|synchronized|assert)\\b");
        refuse(6, code, "\\b(equals|hashCode|toString)\\b");
        refuse(13, code, "\\b(Thread|Random|Runtime|File|nanoTime|currentTimeMillis|getenv)\\b");
        refuse(1, code, "\\bpackage\\b");
    }

    private static void refuse(int rule, String code, String pattern) {
        Matcher matcher = Pattern.compile(pattern).matcher(code);
        while (matcher.find()) {
            check(rule, "no '" + matcher.group() + "' in the class", false);
        }
    }

    private static void library(String code) {
        Set<String> allowed = Set.of("Math.max", "Math.min", "Math.abs", "Math.floorDiv",
                "Math.floorMod", "Integer.compare", "Integer.bitCount", "Long.compare",
                "Long.bitCount", "Arrays.fill", "Arrays.copyOf", "Arrays.copyOfRange",
                "System.arraycopy");
        Matcher calls = Pattern.compile("\\b(Math|Integer|Long|Arrays|System)\\s*\\.\\s*(\\w+)")
                .matcher(code);
        while (calls.find()) {
            String name = calls.group(1) + "." + calls.group(2);
            check(4, name + " is in the library", allowed.contains(name));
        }
        Matcher imports = Pattern.compile("\\bimport\\s+([^;]+);").matcher(code);
        while (imports.find()) {
            check(4, "import of " + imports.group(1), Set.of("java.util.Arrays",
                    "java.util.ArrayList", "java.util.List").contains(imports.group(1)));
        }
    }

    private static void sizes(String source) {
        check(11, "so many classes: " + classes().size(), classes().size() <= MOST_CLASSES);
        for (Class<?> type : classes()) {
            int fields = 0;
            for (Field field : type.getDeclaredFields()) {
                fields += Modifier.isStatic(field.getModifiers()) ? 0 : 1;
            }
            check(11, "so many fields of " + type + ": " + fields, fields <= MOST_FIELDS);
            List<Executable> methods = new ArrayList<>(List.of(type.getDeclaredMethods()));
            methods.addAll(List.of(type.getDeclaredConstructors()));
            for (Executable method : methods) {
                check(11, "few parameters of " + method,
                        method.getParameterCount() <= MOST_PARAMETERS);
            }
        }
        // A method's last line is a brace as far in as its first; classes inside are passed over.
        Matcher methods = Pattern.compile("(?m)^((?: {4}){1,2})(?! )(?!.*\\bclass\\b)[^\n]*\\{\n"
                + "(?s:(.*?))^\\1\\}").matcher(source);
        int seen = 0;
        for (int from = 0; methods.find(from); from = methods.end()) {
            seen++;
            check(11, "short: " + methods.group().lines().findFirst().orElse(""),
                    methods.group().lines().count() <= MOST_LINES);
        }
        check(11, "methods were found", seen > 0);
    }
}
