import java.lang.reflect.Constructor;
import java.lang.reflect.Field;
import java.lang.reflect.Method;
import java.lang.reflect.Modifier;
import java.nio.file.Files;
import java.nio.file.Path;
import java.util.ArrayList;
import java.util.Arrays;
import java.util.List;
import java.util.Set;
import java.util.TreeSet;
import java.util.regex.Matcher;
import java.util.regex.Pattern;

/** The document's face, and the rules of LANGUAGE.md that can be told from the source or the class. */
public final class SourceTest {
    private static final Path SOURCE = Path.of("src/main/java/LineBundles.java");
    private static final String FACE = "all(int) as(int,int) ask(int,int) copy(int,int,int,int,int) count(int) "
        + "detour(int) drop(int) kind(int) lay(int,int,int,int) lead(int) line(int,int) open(int,int) pass() "
        + "point(int,int) reads(int,int) rest() rule(int,int) set(int,int,int) shared(int,int) "
        + "sheet(int,int,int) shut(int,int) status() take(int) tint(int) trace(int) way(int,int) "
        + "width(int,int,int)";
    private static final Pattern HEAD = Pattern.compile("^( {4}| {8})(?! )[^=;]*\\) \\{$");
    private static final Due DUE = new Due();

    public static void main(String[] args) throws Exception {
        face();
        fields();
        nested();
        words(code(Files.readString(SOURCE)));
        methods(Files.readAllLines(SOURCE));
        DUE.end();
    }

    private static void fine(String what, boolean holds) {
        DUE.same(what + " (1: it holds)", holds ? 1 : 0, 1);
    }

    private static String told(Method m) {
        List<String> types = new ArrayList<>();
        for (Class<?> type : m.getParameterTypes()) {
            types.add(type.getSimpleName());
        }
        return m.getName() + "(" + String.join(",", types) + ")";
    }

    private static void face() {
        Set<String> shown = new TreeSet<>(), names = new TreeSet<>();
        for (Method m : LineBundles.class.getDeclaredMethods()) {
            if (Modifier.isPublic(m.getModifiers())) {
                shown.add(told(m));
                names.add(m.getName());
                fine("answers int: " + m, m.getReturnType() == int.class && !Modifier.isStatic(m.getModifiers()));
            } else {
                fine("private: " + m, Modifier.isPrivate(m.getModifiers()));
            }
        }
        fine("the face: " + shown, shown.equals(new TreeSet<>(Arrays.asList(FACE.split(" ")))));
        for (Class<?> c : allClasses()) {
            for (Method m : c.getDeclaredMethods()) {
                boolean onFace = c == LineBundles.class && Modifier.isPublic(m.getModifiers());
                fine("a name of the face: " + m, onFace || !names.contains(m.getName()));
                fine("seven parameters: " + m, m.getParameterCount() <= 7);
            }
        }
        Constructor<?>[] makers = LineBundles.class.getDeclaredConstructors();
        fine("one public constructor", makers.length == 1 && Modifier.isPublic(makers[0].getModifiers())
            && makers[0].getParameterCount() == 0);
        fine("public and final", LineBundles.class.getModifiers() == (Modifier.PUBLIC | Modifier.FINAL));
        fine("constants", LineBundles.NONE == -1000000 && LineBundles.BAD == -1000001
            && LineBundles.STATE == -1000002 && LineBundles.FULL == -1000003);
    }

    private static void fields() {
        Set<String> constants = Set.of("NONE", "BAD", "STATE", "FULL");
        for (Class<?> c : allClasses()) {
            int own = 0;
            for (Field f : c.getDeclaredFields()) {
                boolean isStatic = Modifier.isStatic(f.getModifiers());
                fine("static and not final: " + f, !isStatic || Modifier.isFinal(f.getModifiers()));
                fine("private: " + f, Modifier.isPrivate(f.getModifiers()) || constants.contains(f.getName()));
                own += isStatic ? 0 : 1;
            }
            fine("twenty fields: " + c, own <= 20);
        }
    }

    private static void nested() {
        fine("twelve classes", allClasses().size() <= 12);
        for (Class<?> c : LineBundles.class.getDeclaredClasses()) {
            fine("static: " + c, Modifier.isStatic(c.getModifiers()) && Modifier.isPrivate(c.getModifiers()));
            fine("none inside: " + c, c.getDeclaredClasses().length == 0);
        }
    }

    private static List<Class<?>> allClasses() {
        List<Class<?>> all = new ArrayList<>(List.of(LineBundles.class));
        all.addAll(Arrays.asList(LineBundles.class.getDeclaredClasses()));
        return all;
    }

    private static String code(String text) {
        return text.replaceAll("(?s)/\\*.*?\\*/", " ").replaceAll("//[^\n]*", " ");
    }

    private static void words(String code) {
        for (String word : List.of("throw", "throws", "try", "catch", "synchronized", "assert", "import", "package",
            "Exact", "->", "::", "protected", "Object", "Thread", "Random", "nanoTime", "double", "float")) {
            Matcher m = Pattern.compile(Character.isLetter(word.charAt(0)) ? "\\b" + word + "\\b" : word).matcher(code);
            fine("without " + word, !m.find());
        }
        for (String line : code.split("\n")) {
            boolean making = Pattern.compile("\\bnew\\b").matcher(line).find();
            fine("rows are made in constructors alone: " + line.trim(), !making || line.contains("private final ")
                || line.trim().equals("sheets[i] = new Sheet();") || line.trim().equals("lines[i] = new Line(1 << i);"));
        }
    }

    private static void methods(List<String> lines) {
        int besides = 0;
        for (int i = 0; i < lines.size(); i++) {
            Matcher m = HEAD.matcher(lines.get(i));
            if (m.matches()) {
                int end = endOf(lines, i, m.group(1));
                fine("sixty lines: " + lines.get(i), end - i < 60);
                besides += placesLookedAt(String.join("\n", lines.subList(i, end)));
            }
        }
        fine("places beside others were found", besides > 0);
    }

    /** A method's head and its end stand at the same depth. */
    private static int endOf(List<String> lines, int head, String depth) {
        int end = head;
        while (end < lines.size() && !lines.get(end).equals(depth + "}")) {
            end++;
        }
        return end;
    }

    /** "An index is looked at before it is used": the place beside another one may be none, -1. */
    private static int placesLookedAt(String method) {
        int besides = 0;
        Matcher m = Pattern.compile("(\\w+) = [^;]*\\bbeside\\(").matcher(method);
        while (m.find()) {
            boolean looked = Pattern.compile("\\b" + m.group(1) + " (<|>=) 0\\b").matcher(method).find();
            fine("looked at: " + m.group(1) + " in " + method.lines().findFirst().orElse("").trim(), looked);
            besides++;
        }
        return besides;
    }
}
