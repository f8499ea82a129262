import java.io.IOException;
import java.lang.reflect.Constructor;
import java.lang.reflect.Field;
import java.lang.reflect.Method;
import java.lang.reflect.Modifier;
import java.nio.file.Files;
import java.nio.file.Path;
import java.util.Set;
import java.util.TreeSet;
import java.util.regex.Matcher;
import java.util.regex.Pattern;

/** The public face of the document, and those rules of LANGUAGE.md that can be seen from outside. */
public final class FaceTest {
    private static final String[] FACE = {
        "make 2", "about 2", "next 1", "between 2", "round 3", "right 3", "sort 2", "figures 2", "hard 2",
        "hardest 2", "count 2", "all 2", "spans 2", "span 4", "table 5", "part 2", "look 1", "fits 8", "status 1"};

    private FaceTest() {
    }

    public static void main(String[] args) throws IOException {
        face();
        classesInside();
        source();
        Due.end();
    }

    private static void face() {
        Due.holds("public and final", Modifier.isPublic(HardBench.class.getModifiers())
            && Modifier.isFinal(HardBench.class.getModifiers()));
        Set<String> due = new TreeSet<>(Set.of(FACE));
        Set<String> seen = new TreeSet<>();
        for (Method method : HardBench.class.getDeclaredMethods()) {
            if (Modifier.isPublic(method.getModifiers())) {
                seen.add(method.getName() + " " + method.getParameterCount());
                Due.holds(method + " is of ints", ofInts(method));
            } else {
                Due.holds(method + " is private", Modifier.isPrivate(method.getModifiers()));
            }
        }
        Due.holds("the methods are " + due, seen.equals(due));
        for (Field field : HardBench.class.getDeclaredFields()) {
            Due.holds(field + " is private and final", Modifier.isPrivate(field.getModifiers())
                && Modifier.isFinal(field.getModifiers()));
        }
        for (Constructor<?> constructor : HardBench.class.getDeclaredConstructors()) {
            Due.holds("one constructor", Modifier.isPublic(constructor.getModifiers())
                && constructor.getParameterCount() == 0);
        }
    }

    private static boolean ofInts(Method method) {
        boolean ofInts = method.getReturnType() == int.class && !Modifier.isStatic(method.getModifiers());
        for (Class<?> parameter : method.getParameterTypes()) {
            ofInts &= parameter == int.class;
        }
        return ofInts;
    }

    private static void classesInside() {
        Set<String> publicNames = new TreeSet<>();
        for (String row : FACE) {
            publicNames.add(row.substring(0, row.indexOf(' ')));
        }
        Class<?>[] inside = HardBench.class.getDeclaredClasses();
        Due.holds("at most twelve classes", inside.length + 1 <= 12);
        for (Class<?> one : inside) {
            int modifiers = one.getModifiers();
            Due.holds(one + " is static and not public", Modifier.isStatic(modifiers)
                && !Modifier.isPublic(modifiers) && !Modifier.isProtected(modifiers));
            Due.holds(one + " has at most twenty fields", one.getDeclaredFields().length <= 20);
            for (Method method : one.getDeclaredMethods()) {
                Due.holds(method + " has a name of its own", !publicNames.contains(method.getName()));
                Due.holds(method + " has at most seven parameters", method.getParameterCount() <= 7);
            }
        }
    }

    private static void source() throws IOException {
        String text = Files.readString(Path.of("src/main/java/HardBench.java"));
        String bare = text.replaceAll("(?s)/\\*.*?\\*/", "").replaceAll("//[^\n]*", "");
        String[] ruledOut = {
            "\\b(throw|throws|try|catch|synchronized|assert|package|protected|float|double)\\b",
            "\\b(Thread|Random|Object|Exception|instanceof|static \\{)", "Exact\\(", "->", "::", "\\bSystem\\."};
        for (String pattern : ruledOut) {
            Due.holds("no " + pattern + " in the class", !Pattern.compile(pattern).matcher(bare).find());
        }
        Matcher imports = Pattern.compile("import ([^;]+);").matcher(bare);
        while (imports.find()) {
            Due.holds("import of Arrays alone", imports.group(1).equals("java.util.Arrays"));
        }
        methodLengths(text);
    }

    /** Methods are told by a line that opens a block and is no statement's. */
    private static void methodLengths(String text) {
        Pattern head = Pattern.compile("^\\s+(?!if|for|while|switch|\\})[^=]*\\)\\s*\\{$");
        int depth = 0;
        int line = 0;
        int start = 0;
        int outside = 0;
        int methods = 0;
        for (String row : text.split("\n")) {
            line++;
            if (start == 0 && head.matcher(row).find()) {
                start = line;
                outside = depth;
                methods++;
            }
            depth += row.chars().map(c -> c == '{' ? 1 : c == '}' ? -1 : 0).sum();
            if (start != 0 && depth == outside) {
                Due.holds("the method at line " + start + " is short", line - start + 1 <= 60);
                start = 0;
            }
        }
        Due.holds("methods were found", methods > FACE.length);
    }
}
