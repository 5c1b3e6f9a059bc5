import java.lang.reflect.Method;
import java.nio.file.Files;
import java.nio.file.Path;
import java.util.TreeSet;
import java.util.regex.Matcher;
import java.util.regex.Pattern;

/** The calls that README.md shows answer what it says. */
public final class ReadmeTest {
    private static final Pattern CALL = Pattern.compile("^net\\.(\\w+)\\(([^)]*)\\); *// (-?\\d+)\\b.*$");
    private static final Due DUE = new Due();

    public static void main(String[] args) throws Exception {
        String page = Files.readString(Path.of("README.md"));
        LineBundles net = new LineBundles();
        int calls = 0;
        for (String line : page.split("\n")) {
            Matcher m = CALL.matcher(line);
            if (m.matches()) {
                DUE.same(line, call(net, m.group(1), m.group(2)), Integer.parseInt(m.group(3)));
                calls++;
            } else {
                DUE.same("a call without an answer: " + line, line.startsWith("net.") ? 1 : 0, 0);
            }
        }
        DUE.same("some calls are shown (1: so it is)", calls > 0 ? 1 : 0, 1);
        allNamed(page);
        DUE.end();
    }

    private static int call(LineBundles net, String name, String given) throws Exception {
        String[] texts = given.isEmpty() ? new String[0] : given.split(", *");
        Class<?>[] types = new Class<?>[texts.length];
        Object[] numbers = new Object[texts.length];
        for (int i = 0; i < texts.length; i++) {
            types[i] = int.class;
            numbers[i] = texts[i].equals("LineBundles.NONE") ? LineBundles.NONE : Integer.parseInt(texts[i]);
        }
        return (Integer) LineBundles.class.getMethod(name, types).invoke(net, numbers);
    }

    private static void allNamed(String page) {
        TreeSet<String> unnamed = new TreeSet<>();
        for (Method m : LineBundles.class.getDeclaredMethods()) {
            boolean onFace = java.lang.reflect.Modifier.isPublic(m.getModifiers());
            if (onFace && !page.contains("`" + m.getName() + "`")) {
                unnamed.add(m.getName());
            }
        }
        DUE.same("calls that the page does not name: " + unnamed, unnamed.size(), 0);
    }
}
