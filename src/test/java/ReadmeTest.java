import java.lang.reflect.Method;
import java.nio.file.Files;
import java.nio.file.Path;
import java.util.TreeMap;
import java.util.TreeSet;
import java.util.regex.Matcher;
import java.util.regex.Pattern;

/** Makes the calls that README.md shows, on one object: each must answer what stands behind it, and all 38 be shown. */
public final class ReadmeTest {
    private static final Check CHECK = new Check();
    private static final Pattern CALL = Pattern.compile("^trust\\.(\\w+)\\((.*)\\); +// (-?\\d+)\\b");

    public static void main(String[] args) throws Exception {
        TreeMap<String, Method> methods = new TreeMap<>();
        for (Method m : PavingTrust.class.getMethods()) {
            if (m.getDeclaringClass() == PavingTrust.class) {
                methods.put(m.getName(), m);
            }
        }
        TreeSet<String> shown = new TreeSet<>();
        PavingTrust trust = new PavingTrust();
        for (String line : Files.readAllLines(Path.of("README.md"))) {
            Matcher call = CALL.matcher(line);
            CHECK.holds("a call with an answer: " + line, !line.startsWith("trust.") || call.find());
            if (line.startsWith("trust.")) {
                shown.add(call.group(1));
                Object answer = methods.get(call.group(1)).invoke(trust, argumentsOf(call.group(2)));
                CHECK.due(line, (Integer) answer, Integer.parseInt(call.group(3)));
            }
        }
        CHECK.holds("all are shown: " + methods.keySet() + ", " + shown, shown.equals(methods.keySet()));
        CHECK.end();
    }

    private static Object[] argumentsOf(String list) {
        String[] parts = list.isEmpty() ? new String[0] : list.split(", ");
        Object[] arguments = new Object[parts.length];
        for (int i = 0; i < parts.length; i++) {
            arguments[i] = parts[i].startsWith("'") ? (int) parts[i].charAt(1) : Integer.parseInt(parts[i]);
        }
        return arguments;
    }
}
