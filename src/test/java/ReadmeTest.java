import java.io.IOException;
import java.lang.reflect.Method;
import java.lang.reflect.Modifier;
import java.nio.file.Files;
import java.nio.file.Path;
import java.util.regex.Matcher;
import java.util.regex.Pattern;

/** README.md tells of every method, and its calls answer what stands behind them. */
public final class ReadmeTest {
    private ReadmeTest() {
    }

    public static void main(String[] args) throws IOException, ReflectiveOperationException {
        String text = Files.readString(Path.of("README.md"));
        everyMethod(text);
        calls(text);
        Due.end();
    }

    private static void everyMethod(String text) {
        for (Method method : HardBench.class.getDeclaredMethods()) {
            if (Modifier.isPublic(method.getModifiers())) {
                boolean told = Pattern.compile("`" + method.getName() + "[`(]").matcher(text).find();
                Due.holds("README tells of " + method.getName(), told);
            }
        }
    }

    private static void calls(String text) throws ReflectiveOperationException {
        HardBench x = new HardBench();
        Matcher rows = Pattern.compile("(?m)^x\\.(\\w+)\\(([-\\d, ]+)\\); +// (-?\\d+)$").matcher(text);
        int found = 0;
        while (rows.find()) {
            found++;
            int answer = (Integer) method(rows.group(1)).invoke(x, (Object[]) numbers(rows.group(2)));
            Due.is("README: " + rows.group(1) + "(" + rows.group(2) + ")", answer, Integer.parseInt(rows.group(3)));
        }
        Due.is("README: every row with a call was read", found, text.split("(?m)^x\\.").length - 1);
        Due.holds("README has calls", found > 0);
    }

    private static Method method(String name) {
        for (Method method : HardBench.class.getDeclaredMethods()) {
            if (method.getName().equals(name)) {
                return method;
            }
        }
        throw new IllegalArgumentException("no method " + name);
    }

    private static Integer[] numbers(String row) {
        String[] texts = row.split(", ");
        Integer[] numbers = new Integer[texts.length];
        for (int k = 0; k < texts.length; k++) {
            numbers[k] = Integer.parseInt(texts[k]);
        }
        return numbers;
    }
}
