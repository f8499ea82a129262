import java.io.IOException;
import java.lang.reflect.Constructor;
import java.lang.reflect.Field;
import java.lang.reflect.Method;
import java.lang.reflect.Modifier;
import java.nio.file.Files;
import java.nio.file.Path;
import java.util.Set;
import java.util.TreeSet;
import java.util.regex.Matcher;
import java.util.regex.Pattern;

/** The public face of the document, and the rules of LANGUAGE.md on members and classes inside. */
public final class FaceTest {
    private static final String[] FACE = {
        "make 2", "about 2", "next 1", "between 2", "round 3", "right 3", "sort 2", "figures 2", "hard 2",
        "hardest 2", "count 2", "all 2", "spans 2", "span 4", "table 5", "part 2", "look 1", "fits 8", "status 1"};

    private FaceTest() {
    }

    public static void main(String[] args) throws IOException {
        face();
        asTheDocumentWritesIt();
        classesInside();
        Due.end();
    }

    private static void face() {
        Due.holds("public and final", Modifier.isPublic(HardBench.class.getModifiers())
            && Modifier.isFinal(HardBench.class.getModifiers()));
        Set<String> due = new TreeSet<>(Set.of(FACE));
        Set<String> seen = new TreeSet<>();
        for (Method method : HardBench.class.getDeclaredMethods()) {
            if (Modifier.isPublic(method.getModifiers())) {
                seen.add(method.getName() + " " + method.getParameterCount());
                Due.holds(method + " is of ints", ofInts(method));
            } else {
                Due.holds(method + " is private", Modifier.isPrivate(method.getModifiers()));
            }
        }
        Due.holds("the methods are " + due, seen.equals(due));
        for (Field field : HardBench.class.getDeclaredFields()) {
            Due.holds(field + " is private and final", Modifier.isPrivate(field.getModifiers())
                && Modifier.isFinal(field.getModifiers()));
        }
        for (Constructor<?> constructor : HardBench.class.getDeclaredConstructors()) {
            Due.holds("one constructor", Modifier.isPublic(constructor.getModifiers())
                && constructor.getParameterCount() == 0);
        }
    }

    /** Each line of the document's face, the parameters' names too, opens a block of the class. */
    private static void asTheDocumentWritesIt() throws IOException {
        String document = Files.readString(Path.of("../shared/DOC.md"));
        String text = Files.readString(Path.of("src/main/java/HardBench.java"));
        Matcher rows = Pattern.compile("(?m)^    (public [^;=]+\\));$").matcher(document);
        int found = 0;
        while (rows.find()) {
            found++;
            Due.holds(rows.group(1) + " stands in the class", text.contains("\n    " + rows.group(1) + " {\n"));
        }
        Due.is("lines of the document's face", found, FACE.length + 1);
    }

    private static boolean ofInts(Method method) {
        boolean ofInts = method.getReturnType() == int.class && !Modifier.isStatic(method.getModifiers());
        for (Class<?> parameter : method.getParameterTypes()) {
            ofInts &= parameter == int.class;
        }
        return ofInts;
    }

    private static void classesInside() {
        Set<String> publicNames = new TreeSet<>();
        for (String row : FACE) {
            publicNames.add(row.substring(0, row.indexOf(' ')));
        }
        Class<?>[] inside = HardBench.class.getDeclaredClasses();
        Due.holds("at most twelve classes", inside.length + 1 <= 12);
        for (Class<?> one : inside) {
            int modifiers = one.getModifiers();
            Due.holds(one + " is static and not public", Modifier.isStatic(modifiers)
                && !Modifier.isPublic(modifiers) && !Modifier.isProtected(modifiers));
            Due.holds("rule 11: " + one + " has at most twenty fields", one.getDeclaredFields().length <= 20);
            for (Field field : one.getDeclaredFields()) {
                Due.holds("rule 5: " + field + " is no static state", !Modifier.isStatic(field.getModifiers())
                    || Modifier.isFinal(field.getModifiers()) && !field.getType().isArray());
            }
            for (Method method : one.getDeclaredMethods()) {
                Due.holds(method + " has a name of its own", !publicNames.contains(method.getName()));
                Due.holds(method + " has at most seven parameters", method.getParameterCount() <= 7);
            }
        }
    }
}
