import java.io.IOException;
import java.lang.reflect.Method;
import java.nio.file.Files;
import java.nio.file.Path;
import java.util.ArrayList;
import java.util.Arrays;
import java.util.List;
import java.util.Set;
import java.util.TreeSet;
import java.util.regex.Matcher;
import java.util.regex.Pattern;

/** README.md's example is made call by call: each answers what stands behind it, and it uses every method. */
public final class ReadmeTest {
    private static final Path README = Path.of("README.md");
    private static final Pattern MADE = Pattern.compile("PageIndex index = new PageIndex\\((\\d+)\\); +// .*");
    private static final Pattern CALLED = Pattern.compile("(index\\.(\\w+)\\(([-0-9, ]*)\\)); +// (-?\\d+|true|false): .*");

    private static int wrong = 0;

    private static void due(String what, Object got, Object want) {
        if (!got.equals(want)) {
            wrong++;
            System.out.println(what + " answered " + got + ", README.md says " + want);
        }
    }

    private static List<String> example() throws IOException {
        List<String> lines = Files.readAllLines(README);
        int start = lines.indexOf("```java");
        List<String> code = new ArrayList<>();
        for (int i = start + 1; start >= 0 && i < lines.size() && !lines.get(i).equals("```"); i++) {
            if (!lines.get(i).isBlank()) {
                code.add(lines.get(i));
            }
        }
        return code;
    }

    private static Object called(PageIndex index, String name, String list) throws ReflectiveOperationException {
        Object[] arguments = Arrays.stream(list.split(",")).map(String::trim).filter(word -> !word.isEmpty())
            .map(Integer::valueOf).toArray();
        Class<?>[] types = new Class<?>[arguments.length];
        Arrays.fill(types, int.class);
        return PageIndex.class.getMethod(name, types).invoke(index, arguments);
    }

    private static Set<String> methods() {
        Set<String> names = new TreeSet<>();
        for (Method method : PageIndex.class.getMethods()) {
            if (method.getDeclaringClass() == PageIndex.class) {
                names.add(method.getName());
            }
        }
        return names;
    }

    private static PageIndex made(String line) {
        Matcher made = MADE.matcher(line);
        return made.matches() ? new PageIndex(Integer.parseInt(made.group(1))) : null;
    }

    public static void main(String[] args) throws IOException, ReflectiveOperationException {
        List<String> code = example();
        PageIndex index = code.isEmpty() ? null : made(code.get(0));
        Set<String> unused = methods();
        for (int i = 1; index != null && i < code.size(); i++) {
            Matcher call = CALLED.matcher(code.get(i));
            if (call.matches()) {
                due(call.group(1), called(index, call.group(2), call.group(3)).toString(), call.group(4));
                unused.remove(call.group(2));
            } else {
                due(code.get(i), "no call with its answer", "a call with its answer");
            }
        }
        due("methods that the example does not use", unused.toString(), "[]");
        System.out.println(wrong == 0 ? "all answers are as README.md says" : wrong + " answers are not");
        if (wrong != 0) {
            System.exit(1);
        }
    }
}
