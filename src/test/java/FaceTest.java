import java.io.IOException;
import java.lang.reflect.Constructor;
import java.lang.reflect.Field;
import java.lang.reflect.Method;
import java.lang.reflect.Modifier;
import java.nio.file.Files;
import java.nio.file.Path;
import java.util.HashSet;
import java.util.Set;
import java.util.TreeSet;
import java.util.regex.Matcher;
import java.util.regex.Pattern;
import java.util.stream.Stream;

/** The public face is the document's and no more, and what class and source tell of LANGUAGE.md's rules holds. */
public final class FaceTest {
    private static final Path SOURCE = Path.of("src/main/java/PageIndex.java");

    private static final Set<String> FACE = Set.of(
        "public static final int PageIndex.BAD",
        "public static final int PageIndex.FULL",
        "public PageIndex(int)",
        "public int PageIndex.insert(int,int,int)",
        "public int PageIndex.remove(int,int,int)",
        "public int PageIndex.has(int,int,int)",
        "public int PageIndex.count(int,int,int,int)",
        "public int PageIndex.different(int,int,int)",
        "public int PageIndex.rank(int,int,int)",
        "public boolean PageIndex.choose(int)",
        "public boolean PageIndex.seek(int,int,int)",
        "public boolean PageIndex.next()",
        "public boolean PageIndex.previous()",
        "public int PageIndex.told(int)",
        "public int PageIndex.stands()",
        "public int PageIndex.size()",
        "public int PageIndex.cut(int,int,int,int)");

    // What the program uses of the library that rule 4 leaves; another of it is to be added here first.
    private static final Set<String> LIBRARY = Set.of(
        "java.util", "Arrays.copyOf", "Math.floorMod", "Math.min", "System.arraycopy");

    private static final int MOST_PARAMETERS = 7;
    private static final int MOST_FIELDS = 20;

    private static final String[] RULED_OUT = {
        "\\b(throw|throws|try|catch|synchronized|assert|package)\\b", "->", "::", "Exact\\b", "\\bstatic\\s*\\{"
    };

    private static Set<String> face() {
        Set<String> found = new TreeSet<>();
        for (Field field : PageIndex.class.getDeclaredFields()) {
            if (!Modifier.isPrivate(field.getModifiers())) {
                found.add(field.toString());
            }
        }
        for (Constructor<?> constructor : PageIndex.class.getDeclaredConstructors()) {
            if (!Modifier.isPrivate(constructor.getModifiers())) {
                found.add(constructor.toString());
            }
        }
        for (Method method : PageIndex.class.getDeclaredMethods()) {
            if (!Modifier.isPrivate(method.getModifiers())) {
                found.add(method.toString());
            }
        }
        return found;
    }

    private static int faceFaults() {
        Set<String> found = face();
        Set<String> lacking = new HashSet<>(FACE);
        lacking.removeAll(found);
        found.removeAll(FACE);
        lacking.forEach(member -> System.out.println("lacking: " + member));
        found.forEach(member -> System.out.println("too much: " + member));
        return lacking.size() + found.size();
    }

    private static int sharedNames() {
        int faults = 0;
        for (Method method : PageIndex.class.getDeclaredMethods()) {
            boolean open = FACE.stream().anyMatch(member -> member.contains("." + method.getName() + "("));
            if (Modifier.isPrivate(method.getModifiers()) && open) {
                System.out.println("a private method bears a public name: " + method.getName());
                faults++;
            }
        }
        return faults;
    }

    private static int fault(boolean found, String what) {
        if (found) {
            System.out.println(what);
        }
        return found ? 1 : 0;
    }

    private static int shapeFaults() {
        int faults = 0;
        int fields = 0;
        for (Field field : PageIndex.class.getDeclaredFields()) {
            boolean shared = Modifier.isStatic(field.getModifiers());
            boolean fixed = Modifier.isFinal(field.getModifiers());
            faults += fault(shared && !fixed, "a static field that is not final: " + field.getName());
            fields += shared ? 0 : 1;
        }
        faults += fault(fields > MOST_FIELDS, fields + " fields");
        for (Method method : PageIndex.class.getDeclaredMethods()) {
            boolean many = method.getParameterCount() > MOST_PARAMETERS;
            faults += fault(many, "too many parameters: " + method.getName());
        }
        return faults;
    }

    private static int libraryFaults(String code) {
        int faults = 0;
        Matcher used = Pattern.compile("\\b([A-Z][a-zA-Z]*|java)\\.([a-z]\\w*)").matcher(code);
        while (used.find()) {
            faults += fault(!LIBRARY.contains(used.group()), "not looked at as library: " + used.group());
        }
        return faults;
    }

    private static int fileFaults() throws IOException {
        try (Stream<Path> files = Files.walk(SOURCE.getParent())) {
            long many = files.filter(Files::isRegularFile).count();
            return fault(many != 1, "the program has " + many + " files");
        }
    }

    private static String code() throws IOException {
        return Files.readString(SOURCE).replaceAll("(?s)/\\*.*?\\*/", " ").replaceAll("//[^\n]*", " ");
    }

    private static int sourceFaults(String code) {
        int faults = 0;
        for (String pattern : RULED_OUT) {
            if (Pattern.compile(pattern).matcher(code).find()) {
                System.out.println("the source has what LANGUAGE.md rules out: " + pattern);
                faults++;
            }
        }
        return faults;
    }

    public static void main(String[] args) throws IOException {
        String code = code();
        int faults = faceFaults() + sharedNames() + shapeFaults() + sourceFaults(code) + libraryFaults(code) + fileFaults();
        int modifiers = PageIndex.class.getModifiers();
        if (!Modifier.isPublic(modifiers) || !Modifier.isFinal(modifiers)) {
            System.out.println("the class is not public and final");
            faults++;
        }
        if (PageIndex.BAD != -1 || PageIndex.FULL != -2) {
            System.out.println("BAD is " + PageIndex.BAD + ", FULL is " + PageIndex.FULL);
            faults++;
        }
        System.out.println(faults == 0 ? "the face is as due" : faults + " faults");
        if (faults != 0) {
            System.exit(1);
        }
    }
}
