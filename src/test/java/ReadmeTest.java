import java.io.IOException;
import java.nio.charset.StandardCharsets;
import java.nio.file.Files;
import java.nio.file.Path;

/** What README.md tells: its example, the answers, which number is which command, and each test by name. */
public final class ReadmeTest {
    private static final Due T = new Due();
    private static String readme = "";

    public static void main(String[] args) throws IOException {
        readme = Files.readString(Path.of("README.md"), StandardCharsets.UTF_8);
        exampleIsAsTold();
        exampleIsTheOneHere();
        answersAreAsTold();
        everyTestIsTold();
        everyCommandFits();
        T.end();
    }

    private static void exampleIsAsTold() {
        TapestryDesk desk = new TapestryDesk();
        T.due("cloth", desk.cloth(4, 6), 1);
        T.due("line", desk.run(2, 0, 0, 3, 5, 7), 1);
        T.due("its last knot", desk.at(3, 5, 0), 7);
        int spot = desk.handle(0);
        int red = desk.bind(spot, 4, 3);
        int twice = desk.macro(1, 2, 0, 0);
        T.due("part", desk.part(twice, red, 1, 1, 0, 0), 1);
        T.due("play", desk.play(twice), 2);
        T.due("it repeats twice", desk.outcome(2), 2);
        T.due("spot", desk.at(1, 1, 0), 3);
        T.due("undo", desk.undo(), 1);
        T.due("redo", desk.redo(), 2);
    }

    /** Each call of README.md's example stands in this file too, so that neither is changed alone. */
    private static void exampleIsTheOneHere() throws IOException {
        String own = Files.readString(Path.of("src/test/java/ReadmeTest.java"), StandardCharsets.UTF_8);
        int begin = readme.indexOf("```java\n");
        int end = readme.indexOf("\n```", begin + 1);
        T.isTrue("README.md has an example", begin >= 0 && end > begin);
        String example = begin >= 0 && end > begin ? readme.substring(begin + 8, end) : "";
        for (String line : example.split("\n")) {
            String code = line.replaceAll("//.*", "").trim().replaceAll(";$", "");
            T.isTrue("tested: " + code, own.contains(code));
        }
    }

    private static void answersAreAsTold() {
        int[] values = {TapestryDesk.BAD, TapestryDesk.STATE, TapestryDesk.FULL, TapestryDesk.FAILED,
            TapestryDesk.NONE};
        String[] names = {"BAD", "STATE", "FULL", "FAILED", "NONE"};
        for (int i = 0; i < names.length; i++) {
            T.isTrue(names[i] + " is told", readme.contains("| `" + names[i] + "` " + values[i] + " |"));
        }
    }

    private static void everyTestIsTold() throws IOException {
        try (var files = Files.list(Path.of("src/test/java"))) {
            for (Path file : files.toList()) {
                String name = file.getFileName().toString().replace(".java", "");
                T.isTrue(name + " is told", readme.contains(name));
            }
        }
    }

    /** A command of each kind with numbers at the ends that the table tells: done, and not right beyond. */
    private static void everyCommandFits() {
        int[][] fits = {
            {0, 7, 7, 0, 0, 9}, {1, 0, 0, 0, 0, 0}, {2, 0, 0, 7, 7, 9}, {3, 7, 0, 511, 7, 9}, {4, 1, 0, 0, 0, 0},
            {5, -20, 20, 0, 0, 0}, {6, 5, 0, 0, 0, 9}, {7, 0, 9, 0, 0, 0}, {8, 9, 0, 0, 0, 0}, {9, 0, 0, 8, 8, 3},
            {10, 9, 0, 0, 0, 0}, {11, 2, 0, 0, 0, 0}, {12, 2, 1, 0, 0, 0}};
        int[][] beyond = {
            {0, 8, 7, 0, 0, 9, 1}, {1, 0, 0, 0, 0, 10, 2}, {2, 0, 0, 7, 8, 9, 1}, {3, 7, 0, 511, 8, 9, 4},
            {4, 2, 0, 0, 0, 0, 4}, {5, -20, 21, 0, 0, 0, 4}, {6, 6, 0, 0, 0, 9, 4}, {7, 0, 10, 0, 0, 0, 2},
            {8, 10, 0, 0, 0, 0, 4}, {9, 0, 0, 8, 8, 4, 4}, {10, 10, 0, 0, 0, 0, 2}, {11, 3, 0, 0, 0, 0, 1},
            {12, 2, 2, 0, 0, 0, 4}};
        String[] names = {"SPOT", "FILL", "LINE", "STAMP", "MIRROR", "SHIFT", "BORDER", "SWAP", "MEND", "SELECT",
            "PICK", "USE", "SHOW"};
        for (int kind = 0; kind < names.length; kind++) {
            T.isTrue(names[kind] + " is told", readme.contains("| " + kind + " | " + names[kind] + " |"));
            T.due(names[kind], asked(new TapestryDesk(), fits[kind]), 1);
            TapestryDesk desk = new TapestryDesk();
            T.due(names[kind] + " beyond", asked(desk, beyond[kind]), TapestryDesk.FAILED);
            T.due(names[kind] + "'s failure", desk.outcome(0), beyond[kind][6]);
        }
    }

    private static int asked(TapestryDesk desk, int[] v) {
        return desk.run(v[0], v[1], v[2], v[3], v[4], v[5]);
    }
}
