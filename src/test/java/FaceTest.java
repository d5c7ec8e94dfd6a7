import java.io.IOException;
import java.lang.reflect.Constructor;
import java.lang.reflect.Field;
import java.lang.reflect.Method;
import java.lang.reflect.Modifier;
import java.nio.charset.StandardCharsets;
import java.nio.file.Files;
import java.nio.file.Path;
import java.util.Arrays;
import java.util.Set;
import java.util.TreeSet;
import java.util.regex.Matcher;
import java.util.regex.Pattern;

/** The public face, and those rules of LANGUAGE.md that can be read off the class or its text. */
public final class FaceTest {
    private static final Due T = new Due();
    private static final String[] FACE = {
        "int cloth(int, int)", "int at(int, int, int)", "int isSelected(int, int)", "int about(int)", "int used(int)",
        "int floats(int, int, int)", "int run(int, int, int, int, int, int)", "int handle(int)",
        "int bind(int, int, int)", "int same(int, int)", "int call(int, int, int, int, int, int)",
        "int macro(int, int, int, int)", "int part(int, int, int, int, int, int)", "int nest(int, int)",
        "int times(int, int)", "int play(int)", "int outcome(int)", "int node()", "int go(int)", "int undo()",
        "int redo()", "int told(int, int)", "int squeeze(int)", "long trace()", "long digest()"};

    public static void main(String[] args) throws IOException, IllegalAccessException {
        constants();
        methods();
        classesInside();
        text(Files.readString(Path.of("src/main/java/TapestryDesk.java"), StandardCharsets.ISO_8859_1));
        T.end();
    }

    private static void constants() throws IllegalAccessException {
        T.due("BAD", TapestryDesk.BAD, -1);
        T.due("STATE", TapestryDesk.STATE, -2);
        T.due("FULL", TapestryDesk.FULL, -3);
        T.due("FAILED", TapestryDesk.FAILED, -5);
        T.due("NONE", TapestryDesk.NONE, -9);
        int seen = 0;
        for (Field field : TapestryDesk.class.getDeclaredFields()) {
            int m = field.getModifiers();
            T.isTrue(field + " is public or private", Modifier.isPublic(m) || Modifier.isPrivate(m));
            T.isTrue(field + " is final, if static", !Modifier.isStatic(m) || Modifier.isFinal(m));
            seen += Modifier.isPublic(m) ? 1 : 0;
        }
        T.due("public fields", seen, 5);
    }

    private static void methods() {
        T.isTrue("the class is final", Modifier.isFinal(TapestryDesk.class.getModifiers()));
        Constructor<?>[] makers = TapestryDesk.class.getDeclaredConstructors();
        T.due("constructors", makers.length, 1);
        T.isTrue("it is public", Modifier.isPublic(makers[0].getModifiers()) && makers[0].getParameterCount() == 0);
        Set<String> open = new TreeSet<>();
        Set<String> names = new TreeSet<>();
        Set<String> hidden = new TreeSet<>();
        for (Method method : TapestryDesk.class.getDeclaredMethods()) {
            if (Modifier.isPrivate(method.getModifiers())) {
                hidden.add(method.getName());
            } else {
                open.add(signature(method));
                names.add(method.getName());
            }
        }
        T.due("the face", open.toString(), new TreeSet<>(Arrays.asList(FACE)).toString());
        hidden.retainAll(names);
        T.due("private methods of a public name", hidden.toString(), "[]");
    }

    private static String signature(Method method) {
        String types = Arrays.toString(method.getParameterTypes()).replace("[", "").replace("]", "");
        return method.getReturnType() + " " + method.getName() + "(" + types + ")";
    }

    private static void classesInside() {
        Class<?>[] inside = TapestryDesk.class.getDeclaredClasses();
        T.isTrue("at most twelve classes", inside.length + 1 <= 12);
        for (Class<?> c : inside) {
            T.isTrue(c + " is private and static",
                    Modifier.isPrivate(c.getModifiers()) && Modifier.isStatic(c.getModifiers()));
            int fields = 0;
            for (Field field : c.getDeclaredFields()) {
                boolean isStatic = Modifier.isStatic(field.getModifiers());
                T.isTrue(field + " is final, if static", !isStatic || Modifier.isFinal(field.getModifiers()));
                fields += isStatic ? 0 : 1;
            }
            T.isTrue(c + " has at most twenty fields", fields <= 20);
            for (Method method : c.getDeclaredMethods()) {
                T.isTrue(method + " takes at most seven", method.getParameterCount() <= 7);
            }
        }
    }

    private static void text(String text) {
        String code = Pattern.compile("/\\*.*?\\*/|//[^\n]*", Pattern.DOTALL).matcher(text).replaceAll("");
        String[] barred = {"throw", "throws", "try", "catch", "synchronized", "assert", "import", "package", "equals",
            "hashCode", "toString", "static \\{", "->", "::", "\\w+Exact", "System\\.(?!arraycopy)", "@"};
        for (String word : barred) {
            String bound = Character.isLetter(word.charAt(0)) ? "\\b" : "";
            Matcher found = Pattern.compile(bound + word).matcher(code);
            T.isTrue("no '" + word + "' in the class", !found.find());
        }
        int begun = 0;
        String[] lines = code.split("\n");
        for (int i = 0; i < lines.length; i++) {
            if (lines[i].matches(" {4,8}[\\w ]+(\\[\\])* ?\\w*\\(.*\\) \\{")) {
                begun = i;
            }
            if (lines[i].matches(" {4,8}\\}")) {
                boolean ofMethod = lines[begun].indexOf(lines[begun].trim()) == lines[i].indexOf('}');
                T.isTrue("short up to line " + i, !ofMethod || i - begun < 60);
            }
        }
    }
}
