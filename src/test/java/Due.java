import java.io.IOException;
import java.io.UncheckedIOException;
import java.nio.charset.StandardCharsets;
import java.nio.file.Files;
import java.nio.file.Path;
import java.util.Arrays;
import java.util.function.LongSupplier;

/** What the project's tests share: answers that are due, and pictures of a desk's cloth. */
final class Due {
    private int wrong = 0;
    private String sentence = "";
    private String document = "";

    /**
     * What is asked from here on holds this sentence of the document; told with each wrong answer.
     * The document must have it, word for word, so that a test never goes by what is no longer said.
     */
    void of(String words) {
        sentence = words;
        if (document.isEmpty()) {
            document = read(Path.of("../shared/DOC.md")).replaceAll("\\s+", " ");
        }
        isTrue("the document says this", document.isEmpty() || document.contains(words));
    }

    /** The file's text; none where the class is tested away from its document. */
    private static String read(Path path) {
        try {
            return Files.exists(path) ? Files.readString(path, StandardCharsets.UTF_8) : "";
        } catch (IOException e) {
            throw new UncheckedIOException(e);
        }
    }

    private void tell(String text) {
        wrong++;
        System.out.println(text + (sentence.isEmpty() ? "" : "  [" + sentence + "]"));
    }

    void due(String call, long got, long want) {
        if (got != want) {
            tell(call + " answered " + got + ", due is " + want);
        }
    }

    void due(String call, String got, String want) {
        if (!got.equals(want)) {
            tell(call + " shows " + got + ", due is " + want);
        }
    }

    void isTrue(String what, boolean holds) {
        if (!holds) {
            tell("not so: " + what);
        }
    }

    int wrongCount() {
        return wrong;
    }

    void end() {
        System.out.println(wrong == 0 ? "all answers are as due" : wrong + " answers are not as due");
        if (wrong != 0) {
            System.exit(1);
        }
    }

    // ---- commands that are run

    /** A command's kind and numbers; those that are not given are 0. */
    static int[] cmd(int... v) {
        return Arrays.copyOf(v, 6);
    }

    static String text(int[] v) {
        return "run(" + v[0] + ", " + v[1] + ", " + v[2] + ", " + v[3] + ", " + v[4] + ", " + v[5] + ")";
    }

    static int run(TapestryDesk x, int... v) {
        int[] all = cmd(v);
        return x.run(all[0], all[1], all[2], all[3], all[4], all[5]);
    }

    /** Runs a command on a desk of this picture: the picture of layer 0 behind it. */
    void done(String ahead, int[] run, String behind) {
        TapestryDesk x = desk(ahead);
        int want = x.node() + 1;
        due(text(run), run(x, run), want);
        due(text(run) + " on " + ahead, picture(x, 0), behind);
    }

    /** Fails on this desk, of this failure, with so much in the trace, and leaves all as it was. */
    void fails(TapestryDesk x, int[] v, int failure, long trace) {
        long digest = x.digest();
        long before = x.trace();
        int node = x.node();
        due(text(v), run(x, v), TapestryDesk.FAILED);
        int[] want = {failure, 0, 1, v[0], 0};
        for (int what = 0; what < want.length; what++) {
            due(text(v) + " outcome(" + what + ")", x.outcome(what), want[what]);
        }
        due(text(v) + " trace()", x.trace() - before, trace);
        due(text(v) + " digest()", x.digest(), digest);
        due(text(v) + " node()", x.node(), node);
    }

    /** Fails on a new desk of so many rows and columns. */
    void failsOn(int rows, int columns, int[] v, int failure, long trace) {
        TapestryDesk x = new TapestryDesk();
        x.cloth(rows, columns);
        fails(x, v, failure, trace);
    }

    void fits(TapestryDesk x, int[] v, long trace) {
        long before = x.trace();
        int want = x.about(8);
        due(text(v), run(x, v), want);
        due(text(v) + " outcome(0)", x.outcome(0), 0);
        due(text(v) + " outcome(2)", x.outcome(2), 1);
        due(text(v) + " outcome(3)", x.outcome(3), TapestryDesk.NONE);
        due(text(v) + " trace()", x.trace() - before, trace);
    }

    /** Fits on a new desk of so many rows and columns. */
    void fitsOn(int rows, int columns, int[] v, long trace) {
        TapestryDesk x = new TapestryDesk();
        x.cloth(rows, columns);
        fits(x, v, trace);
    }

    /** A call that is refused with this answer, and changes nothing that can be asked for. */
    void refuses(TapestryDesk x, String call, LongSupplier made, int want) {
        String ahead = all(x);
        due(call, made.getAsLong(), want);
        due("all behind " + call, all(x), ahead);
    }

    // ---- pictures

    /** All that can be asked for of a desk as a whole. */
    static String all(TapestryDesk x) {
        StringBuilder text = new StringBuilder();
        text.append(x.digest()).append(' ').append(x.trace()).append(' ').append(x.node()).append(" about");
        for (int what = 0; what < 9; what++) {
            text.append(' ').append(x.about(what));
        }
        text.append(" outcome");
        for (int what = 0; what < 5; what++) {
            text.append(' ').append(x.outcome(what));
        }
        return text.append(" under it ").append(x.told(x.node(), 1)).toString();
    }

    static String outcome(TapestryDesk x) {
        return x.outcome(0) + " " + x.outcome(1) + " " + x.outcome(2) + " " + x.outcome(3) + " " + x.outcome(4);
    }

    /** The wools of a layer (-1: what is seen), the rows parted by '/'. */
    static String picture(TapestryDesk x, int layer) {
        StringBuilder text = new StringBuilder();
        int rows = x.about(0);
        int columns = x.about(1);
        for (int r = 0; r < rows; r++) {
            text.append(r == 0 ? "" : "/");
            for (int c = 0; c < columns; c++) {
                text.append(x.at(r, c, layer));
            }
        }
        return text.toString();
    }

    static String selection(TapestryDesk x) {
        StringBuilder text = new StringBuilder();
        int rows = x.about(0);
        int columns = x.about(1);
        for (int r = 0; r < rows; r++) {
            text.append(r == 0 ? "" : "/");
            for (int c = 0; c < columns; c++) {
                text.append(x.isSelected(r, c));
            }
        }
        return text.toString();
    }

    /** A desk whose cloth is as the picture in layer 0, by one spot for each knot that has a wool. */
    static TapestryDesk desk(String picture) {
        TapestryDesk x = new TapestryDesk();
        String[] rows = picture.split("/");
        x.cloth(rows.length, rows[0].length());
        spots(x, picture);
        return x;
    }

    /** Spots on the layer in use; a '0' of the picture is left as it is. */
    static void spots(TapestryDesk x, String picture) {
        String[] rows = picture.split("/");
        for (int r = 0; r < rows.length; r++) {
            for (int c = 0; c < rows[r].length(); c++) {
                if (rows[r].charAt(c) != '0') {
                    x.run(0, r, c, 0, 0, rows[r].charAt(c) - '0');
                }
            }
        }
    }

    /** Makes THE SELECTION what the picture has as '1'; some of it must be. */
    static void choose(TapestryDesk x, String picture) {
        String[] rows = picture.split("/");
        int way = 0;
        for (int r = 0; r < rows.length; r++) {
            for (int c = 0; c < rows[r].length(); c++) {
                if (rows[r].charAt(c) == '1') {
                    x.run(9, r, c, 1, 1, way);
                    way = 1;
                }
            }
        }
    }

    /** Makes THE SELECTION empty. */
    static void chooseNone(TapestryDesk x) {
        x.run(9, 0, 0, x.about(0), x.about(1), 2);
    }
}
