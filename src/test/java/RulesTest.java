import java.nio.file.Files;
import java.nio.file.Path;
import java.util.Map;
import java.util.Set;
import java.util.TreeMap;
import java.util.TreeSet;
import java.util.regex.Matcher;
import java.util.regex.Pattern;

/** Rules 8, 11 and 12 of LANGUAGE.md, as far as the lines of the class tell: lengths, depths of calls, what is made where. */
public final class RulesTest {
    private static final Check CHECK = new Check();
    private static final Pattern METHOD = Pattern.compile("^ +(?:[a-z]+ )*(?:(?:int|long|boolean|void|[A-Z]\\w*)(?:\\[\\])? )?(\\w+)\\((.*)\\) \\{$");
    private static final Pattern CALL = Pattern.compile("\\b(\\w+)\\(");
    private static final Set<String> NO_METHODS = Set.of("if", "for", "while", "switch");
    /** Those that keep what they make; all other methods make nothing. */
    private static final Set<String> MAKERS = Set.of("street", "house", "pass", "open");
    private static final Set<String> RECURSIONS = Set.of("[tryFrom]",
            "[readExpression, readOperand, readParenthesis, readProduct, readSum]");

    private final TreeMap<String, String> bodies = new TreeMap<>();
    private final TreeMap<String, Set<String>> reached = new TreeMap<>();

    public static void main(String[] args) throws Exception {
        RulesTest rules = new RulesTest();
        rules.readMethods(Files.readString(Path.of("src/main/java/PavingTrust.java")));
        rules.lengths();
        rules.makers();
        rules.recursions();
        rules.depths();
        CHECK.end();
    }

    /** A method goes on to the first line that closes it, which is as far in as its own first line. */
    private void readMethods(String source) {
        String[] lines = source.replaceAll("//[^\n]*", "").split("\n");
        for (int i = 0; i < lines.length; i++) {
            Matcher method = METHOD.matcher(lines[i]);
            if (!method.find() || NO_METHODS.contains(method.group(1))) {
                continue;
            }
            String end = lines[i].replaceAll("\\S.*", "") + "}";
            StringBuilder body = new StringBuilder();
            for (i++; !lines[i].equals(end); i++) {
                body.append(lines[i]).append('\n');
            }
            CHECK.holds("one method alone bears the name " + method.group(1), !bodies.containsKey(method.group(1)));
            CHECK.holds("parameters of " + method.group(1), method.group(2).split(",").length <= 7);
            bodies.put(method.group(1), body.toString());
        }
        CHECK.holds("methods found: " + bodies.size(), bodies.size() > 38);
        for (String name : bodies.keySet()) {
            reached.put(name, new TreeSet<>());
            reach(name, name);
        }
    }

    private Set<String> calledBy(String name) {
        Set<String> called = new TreeSet<>();
        Matcher call = CALL.matcher(bodies.get(name));
        while (call.find()) {
            if (bodies.containsKey(call.group(1))) {
                called.add(call.group(1));
            }
        }
        return called;
    }

    private void reach(String from, String at) {
        for (String called : calledBy(at)) {
            if (reached.get(from).add(called)) {
                reach(from, called);
            }
        }
    }

    private void lengths() {
        for (Map.Entry<String, String> method : bodies.entrySet()) {
            CHECK.holds("lines of " + method.getKey(), method.getValue().split("\n").length <= 58);
        }
    }

    private void makers() {
        for (Map.Entry<String, String> method : bodies.entrySet()) {
            boolean isConstructor = Character.isUpperCase(method.getKey().charAt(0));
            boolean makes = Pattern.compile("\\bnew \\w|copyOf|clone\\(|toCharArray|substring").matcher(method.getValue()).find();
            CHECK.holds(method.getKey() + " makes nothing", !makes || isConstructor || MAKERS.contains(method.getKey()));
        }
    }

    private Set<String> groupOf(String name) {
        Set<String> group = new TreeSet<>();
        for (String other : reached.get(name)) {
            if (reached.get(other).contains(name)) {
                group.add(other);
            }
        }
        return group;
    }

    private void recursions() {
        Set<String> found = new TreeSet<>();
        for (String name : bodies.keySet()) {
            found.add(groupOf(name).toString());
        }
        found.remove("[]");
        CHECK.holds("methods that call one another " + found, found.equals(RECURSIONS));
    }

    private void depths() {
        for (String name : bodies.keySet()) {
            CHECK.holds("calls from " + name + " go " + depthFrom(name) + " deep", depthFrom(name) <= 8);
        }
    }

    /** How many stand open at once, those that call one another told as one. */
    private int depthFrom(String name) {
        Set<String> group = groupOf(name);
        group.add(name);
        int deepest = 0;
        for (String member : group) {
            for (String called : calledBy(member)) {
                deepest = group.contains(called) ? deepest : Math.max(deepest, depthFrom(called));
            }
        }
        return 1 + deepest;
    }
}
