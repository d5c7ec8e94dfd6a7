import java.io.IOException;
import java.nio.charset.StandardCharsets;
import java.nio.file.Files;
import java.nio.file.Path;
import java.util.ArrayList;
import java.util.List;
import java.util.Map;
import java.util.Set;
import java.util.TreeMap;
import java.util.TreeSet;
import java.util.regex.Matcher;
import java.util.regex.Pattern;

/**
 * Rules 8 and 11 of LANGUAGE.md: which methods call which, read off the class's text. Methods of one
 * name are taken for one, so what is found is never less than what is there.
 */
public final class CallsTest {
    private static final Due T = new Due();
    private static final Pattern HEAD = Pattern.compile(
            " {4,8}((?:public |private |static |final )*)(?:[\\w\\[\\]]+ )?(\\w+)\\(([^)]*)\\) \\{");
    private static final int MOST_DEEP = 8;

    private static final Map<String, Set<String>> CALLED = new TreeMap<>();
    private static final Map<String, List<String>> HEADS = new TreeMap<>();

    public static void main(String[] args) throws IOException {
        String text = Files.readString(Path.of("src/main/java/TapestryDesk.java"), StandardCharsets.ISO_8859_1);
        read(text.replaceAll("//[^\n]*", "").split("\n"));
        T.isTrue("methods are found: " + CALLED.size(), CALLED.size() > 100);
        recursionIsPrivateAndGuarded();
        callsAreNotDeep();
        T.end();
    }

    private static void read(String[] lines) {
        for (String line : lines) {
            Matcher head = HEAD.matcher(line);
            if (head.matches()) {
                CALLED.computeIfAbsent(head.group(2), k -> new TreeSet<>());
                HEADS.computeIfAbsent(head.group(2), k -> new ArrayList<>()).add(line.trim());
            }
        }
        String within = "";
        for (String line : lines) {
            Matcher head = HEAD.matcher(line);
            if (head.matches()) {
                within = head.group(2);
            } else if (!within.isEmpty()) {
                addCalls(within, line);
            }
        }
    }

    private static void addCalls(String caller, String line) {
        Matcher call = Pattern.compile("(\\w+)\\(").matcher(line);
        while (call.find()) {
            if (CALLED.containsKey(call.group(1))) {
                CALLED.get(caller).add(call.group(1));
            }
        }
    }

    private static Set<String> reachedFrom(String name) {
        Set<String> reached = new TreeSet<>();
        List<String> open = new ArrayList<>(CALLED.get(name));
        while (!open.isEmpty()) {
            String next = open.remove(open.size() - 1);
            if (reached.add(next)) {
                open.addAll(CALLED.get(next));
            }
        }
        return reached;
    }

    private static boolean isRecursive(String name) {
        return reachedFrom(name).contains(name);
    }

    private static void recursionIsPrivateAndGuarded() {
        Set<String> recursive = new TreeSet<>();
        for (String name : CALLED.keySet()) {
            if (isRecursive(name)) {
                recursive.add(name);
                for (String head : HEADS.get(name)) {
                    T.isTrue("recursion is private: " + head, head.startsWith("private "));
                    T.isTrue("it carries its depth: " + head, head.contains("int depth"));
                }
            }
        }
        T.due("what is recursive", recursive.toString(), "[callMacro, callParts]");
    }

    private static void callsAreNotDeep() {
        for (String name : CALLED.keySet()) {
            int deep = depthOf(name, new TreeSet<>());
            T.isTrue(name + " goes " + deep + " calls deep", deep <= MOST_DEEP);
        }
    }

    /** How many calls stand open at most, this one too; what is recursive counts once on its way. */
    private static int depthOf(String name, Set<String> open) {
        int deepest = 0;
        open.add(name);
        for (String called : CALLED.get(name)) {
            if (!open.contains(called)) {
                deepest = Math.max(deepest, depthOf(called, open));
            }
        }
        open.remove(name);
        return deepest + 1;
    }
}
