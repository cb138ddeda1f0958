import java.io.IOException;
import java.lang.reflect.Method;
import java.lang.reflect.Modifier;
import java.nio.file.Files;
import java.nio.file.Path;
import java.util.HashMap;
import java.util.List;
import java.util.Map;
import java.util.Set;
import java.util.TreeSet;
import java.util.regex.Matcher;
import java.util.regex.Pattern;
import java.util.stream.Collectors;
import java.util.stream.Stream;

/** What README.md tells is so: each answer of its example, each call, each class and test. */
public final class ReadmeTests {
    private static int wrong = 0;

    public static void main(String[] args) throws IOException, ReflectiveOperationException {
        String readme = Files.readString(Path.of("README.md"));
        example(readme);
        calls(readme);
        Set<String> tests = named("src/test/java");
        Set<String> support = named("src/test/support");
        Set<String> inside = Stream.of(WaitingWrites.class.getDeclaredClasses())
                .map(Class::getSimpleName).collect(Collectors.toCollection(TreeSet::new));
        Set<String> all = new TreeSet<>(tests);
        all.addAll(support);
        all.addAll(inside);
        Set<String> told = new TreeSet<>();
        Matcher names = Pattern.compile("`([A-Z]\\w*[a-z]\\w*)`").matcher(readme);
        while (names.find()) {
            told.add(names.group(1));
        }
        check("README.md names " + told + ", there are " + all, told.equals(all));
        System.out.println(wrong == 0 ? "README.md is as it is" : wrong + " are wrong");
        if (wrong != 0) {
            System.exit(1);
        }
    }

    private static void check(String what, boolean holds) {
        if (!holds) {
            wrong++;
            System.out.println("does not hold: " + what);
        }
    }

    private static Set<String> named(String directory) throws IOException {
        try (Stream<Path> files = Files.list(Path.of(directory))) {
            return files.map(file -> file.getFileName().toString())
                    .filter(name -> name.endsWith(".java"))
                    .map(name -> name.substring(0, name.length() - ".java".length()))
                    .collect(Collectors.toCollection(TreeSet::new));
        }
    }

    /** Makes the calls of the example, and compares each answer with the one behind it. */
    private static void example(String readme) throws ReflectiveOperationException {
        Pattern line = Pattern.compile(
                "(?:int (\\w+) = )?store\\.(\\w+)\\(([^)]*)\\);\\s*// (-?\\d+): .*");
        String[] parts = readme.split("```java\n|```\n");
        WaitingWrites store = new WaitingWrites();
        Map<String, Integer> variables = new HashMap<>();
        List<String> lines = parts[1].lines().collect(Collectors.toList());
        check("the example makes an object",
                lines.get(0).equals("WaitingWrites store = new WaitingWrites();"));
        check("the example has calls", lines.size() > 1);
        for (String call : lines.subList(1, lines.size())) {
            Matcher matcher = line.matcher(call);
            if (!matcher.matches()) {
                check("a call and its answer: " + call, false);
                continue;
            }
            int answer = answer(store, matcher.group(2), matcher.group(3), variables);
            if (matcher.group(1) != null) {
                variables.put(matcher.group(1), answer);
            }
            check(call + " answered " + answer, answer == Integer.parseInt(matcher.group(4)));
        }
    }

    private static int answer(WaitingWrites store, String name, String list,
            Map<String, Integer> variables) throws ReflectiveOperationException {
        String[] words = list.isEmpty() ? new String[0] : list.split(", ");
        Class<?>[] types = new Class<?>[words.length];
        Object[] values = new Object[words.length];
        for (int i = 0; i < words.length; i++) {
            types[i] = int.class;
            values[i] = variables.containsKey(words[i]) ? variables.get(words[i])
                    : Integer.decode(words[i]);
        }
        return (int) WaitingWrites.class.getMethod(name, types).invoke(store, values);
    }

    private static void calls(String readme) {
        for (Method method : WaitingWrites.class.getDeclaredMethods()) {
            if (Modifier.isPublic(method.getModifiers())) {
                int commas = Math.max(method.getParameterCount() - 1, 0);
                check("README.md has a row of " + method, Pattern.compile("(?m)^\\| `"
                        + method.getName() + "\\([^),]*(, [^),]*){" + commas + "}\\)` \\|")
                        .matcher(readme).find());
            }
        }
    }
}
