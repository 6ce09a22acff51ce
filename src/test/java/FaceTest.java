import java.io.IOException;
import java.lang.reflect.Constructor;
import java.lang.reflect.Field;
import java.lang.reflect.Method;
import java.lang.reflect.Modifier;
import java.nio.file.Files;
import java.nio.file.Path;
import java.util.HashSet;
import java.util.Set;
import java.util.TreeSet;
import java.util.regex.Pattern;

/** The public face is the document's and no more, and the source keeps clear of words that LANGUAGE.md rules out. */
public final class FaceTest {
    private static final Path SOURCE = Path.of("src/main/java/PageIndex.java");

    private static final Set<String> FACE = Set.of(
        "public static final int PageIndex.BAD",
        "public static final int PageIndex.FULL",
        "public PageIndex(int)",
        "public int PageIndex.insert(int,int,int)",
        "public int PageIndex.remove(int,int,int)",
        "public int PageIndex.has(int,int,int)",
        "public int PageIndex.count(int,int,int,int)",
        "public int PageIndex.different(int,int,int)",
        "public int PageIndex.rank(int,int,int)",
        "public boolean PageIndex.choose(int)",
        "public boolean PageIndex.seek(int,int,int)",
        "public boolean PageIndex.next()",
        "public boolean PageIndex.previous()",
        "public int PageIndex.told(int)",
        "public int PageIndex.stands()",
        "public int PageIndex.size()",
        "public int PageIndex.cut(int,int,int,int)");

    private static final String[] RULED_OUT = {
        "\\b(throw|throws|try|catch|synchronized|assert|package)\\b", "->", "::", "Exact\\b", "\\bstatic\\s*\\{"
    };

    private static Set<String> face() {
        Set<String> found = new TreeSet<>();
        for (Field field : PageIndex.class.getDeclaredFields()) {
            if (!Modifier.isPrivate(field.getModifiers())) {
                found.add(field.toString());
            }
        }
        for (Constructor<?> constructor : PageIndex.class.getDeclaredConstructors()) {
            if (!Modifier.isPrivate(constructor.getModifiers())) {
                found.add(constructor.toString());
            }
        }
        for (Method method : PageIndex.class.getDeclaredMethods()) {
            if (!Modifier.isPrivate(method.getModifiers())) {
                found.add(method.toString());
            }
        }
        return found;
    }

    private static int faceFaults() {
        Set<String> found = face();
        Set<String> lacking = new HashSet<>(FACE);
        lacking.removeAll(found);
        found.removeAll(FACE);
        lacking.forEach(member -> System.out.println("lacking: " + member));
        found.forEach(member -> System.out.println("too much: " + member));
        return lacking.size() + found.size();
    }

    private static int sharedNames() {
        int faults = 0;
        for (Method method : PageIndex.class.getDeclaredMethods()) {
            boolean open = FACE.stream().anyMatch(member -> member.contains("." + method.getName() + "("));
            if (Modifier.isPrivate(method.getModifiers()) && open) {
                System.out.println("a private method bears a public name: " + method.getName());
                faults++;
            }
        }
        return faults;
    }

    private static int sourceFaults() throws IOException {
        String code = Files.readString(SOURCE).replaceAll("(?s)/\\*.*?\\*/", " ").replaceAll("//[^\n]*", " ");
        int faults = 0;
        for (String pattern : RULED_OUT) {
            if (Pattern.compile(pattern).matcher(code).find()) {
                System.out.println("the source has what LANGUAGE.md rules out: " + pattern);
                faults++;
            }
        }
        return faults;
    }

    public static void main(String[] args) throws IOException {
        int faults = faceFaults() + sharedNames() + sourceFaults();
        int modifiers = PageIndex.class.getModifiers();
        if (!Modifier.isPublic(modifiers) || !Modifier.isFinal(modifiers)) {
            System.out.println("the class is not public and final");
            faults++;
        }
        if (PageIndex.BAD != -1 || PageIndex.FULL != -2) {
            System.out.println("BAD is " + PageIndex.BAD + ", FULL is " + PageIndex.FULL);
            faults++;
        }
        System.out.println(faults == 0 ? "the face is as due" : faults + " faults");
        if (faults != 0) {
            System.exit(1);
        }
    }
}
