import java.io.IOException;
import java.nio.file.Files;
import java.nio.file.Path;
import java.util.ArrayList;
import java.util.List;
import java.util.Map;
import java.util.Set;
import java.util.TreeMap;
import java.util.TreeSet;
import java.util.regex.Matcher;
import java.util.regex.Pattern;

/** The rules of LANGUAGE.md that can be read from the text of the class; the rule's number stands in front. */
public final class RulesTest {
    /** What rule 4 lists and the class needs; constants of the library are not on its list. */
    private static final Set<String> LIBRARY = Set.of(
        "Arrays.fill(", "Integer.numberOfLeadingZeros(", "Integer.numberOfTrailingZeros(",
        "Long.numberOfLeadingZeros(", "Math.abs(", "Math.floorDiv(", "Math.floorMod(", "Math.max(", "Math.min(");
    /** A line that opens a block and is no statement's; the name stands before the round bracket. */
    private static final Pattern HEAD =
        Pattern.compile("^\\s+(?!if|for|while|switch|\\})[^=(]*?(\\w+)\\([^=]*\\)\\s*\\{$");

    /** The bodies of the methods, and of constructors, by their names. */
    private static final Map<String, List<String>> BODIES = new TreeMap<>();

    private RulesTest() {
    }

    public static void main(String[] args) throws IOException {
        String text = Files.readString(Path.of("src/main/java/HardBench.java"));
        String bare = text.replaceAll("(?s)/\\*.*?\\*/", "").replaceAll("//[^\n]*", "");
        words(bare);
        library(bare);
        indexes(bare);
        readBodies(bare);
        lengths();
        depth();
        Due.end();
    }

    private static void words(String bare) {
        String[] ruledOut = {
            "\\b(throw|throws|try|catch|synchronized|assert|package|protected|float|double)\\b",
            "\\b(Thread|Random|Object|Exception|instanceof|static \\{)", "Exact\\(", "->", "::", "\\bSystem\\."};
        for (String pattern : ruledOut) {
            Due.holds("6, 13: no " + pattern + " in the class", !Pattern.compile(pattern).matcher(bare).find());
        }
    }

    private static void library(String bare) {
        Matcher imports = Pattern.compile("import ([^;]+);").matcher(bare);
        while (imports.find()) {
            Due.holds("4: import of Arrays alone", imports.group(1).equals("java.util.Arrays"));
        }
        Matcher uses = Pattern.compile("\\b(Integer|Long|Math|Arrays|String|Character)\\.\\w+\\(?").matcher(bare);
        int found = 0;
        while (uses.find()) {
            found++;
            Due.holds("4: " + uses.group() + " is on the list", LIBRARY.contains(uses.group()));
        }
        Due.holds("4: uses of the library were found", found > 0);
    }

    /** Rows are read and written in Rows alone, behind a look at the index. */
    private static void indexes(String bare) {
        int from = bare.indexOf("class Rows");
        int to = bare.indexOf("class Floats");
        Due.holds("7: Rows were found", from > 0 && to > from);
        Matcher uses = Pattern.compile("\\w\\[[^\\]]").matcher(bare);
        while (uses.find()) {
            boolean isNew = bare.substring(0, uses.start() + 1).endsWith("new int");
            boolean inRows = uses.start() > from && uses.start() < to;
            Due.holds("7: an index outside Rows at " + uses.start(), isNew || inRows);
        }
    }

    private static void readBodies(String bare) {
        String name = null;
        StringBuilder body = new StringBuilder();
        int depth = 0;
        int outside = 0;
        for (String row : bare.split("\n")) {
            Matcher head = HEAD.matcher(row);
            if (name == null && head.find()) {
                name = head.group(1);
                outside = depth;
            } else if (name != null) {
                body.append(row).append('\n');
            }
            depth += row.chars().map(c -> c == '{' ? 1 : c == '}' ? -1 : 0).sum();
            if (name != null && depth == outside) {
                BODIES.computeIfAbsent(name, key -> new ArrayList<>()).add(body.toString());
                name = null;
                body.setLength(0);
            }
        }
        Due.holds("11: methods were found", BODIES.size() > 60 && BODIES.containsKey("takesUpper"));
    }

    private static void lengths() {
        BODIES.forEach((name, bodies) -> {
            for (String body : bodies) {
                Due.holds("11: " + name + " is short", body.split("\n").length <= 60);
            }
        });
    }

    /** Of methods with one name the deeper one counts, so that no call is taken for less than it is. */
    private static void depth() {
        for (String name : BODIES.keySet()) {
            int depth = depthOf(name, new TreeSet<>());
            Due.holds("8, 11: calls from " + name + " go at most eight deep and not " + depth, depth <= 8);
        }
    }

    private static int depthOf(String name, Set<String> open) {
        if (!open.add(name)) {
            return 1000;
        }
        int deepest = 0;
        for (String body : BODIES.get(name)) {
            Matcher calls = Pattern.compile("\\b(\\w+)\\(").matcher(body);
            while (calls.find()) {
                if (BODIES.containsKey(calls.group(1))) {
                    deepest = Math.max(deepest, depthOf(calls.group(1), open));
                } else if (LIBRARY.stream().anyMatch(use -> use.endsWith("." + calls.group()))) {
                    deepest = Math.max(deepest, 1);
                }
            }
        }
        open.remove(name);
        return deepest + 1;
    }
}
