import java.lang.reflect.Constructor;
import java.lang.reflect.Field;
import java.lang.reflect.Method;
import java.lang.reflect.Modifier;
import java.nio.file.Files;
import java.nio.file.Path;
import java.util.TreeSet;

/** The public face of the document, and the rules of LANGUAGE.md that a plain look at class and source can tell. */
public final class FaceTest {
    private static final String METHODS = "street3 height4 read3 drain4 water3 standing1 most1 level4 levelled1 move0 "
            + "stones2 course1 of1 lay1 year0 wheels3 pave1 wear2 cost4 plan5 planned1 house3 days1 feed2 act2 "
            + "inForce3 rate3 rates2 clause2 open4 back1 penalty3 sink2 opening2 draw3 drawn1 bad4 count1";
    private static final String[] BANNED = {"\\bthrow\\b", "\\btry\\b", "\\bcatch\\b", "\\bsynchronized\\b",
        "\\bassert\\b", "->", "::", "Exact\\b", "\\bprotected\\b", "\\bRandom\\b", "\\bThread\\b", "System\\.(?!arraycopy)"};

    public static void main(String[] args) throws Exception {
        Check check = new Check();
        face(check);
        noNameTwice(check);
        source(check, Files.readString(Path.of("src/main/java/PavingTrust.java")));
        check.end();
    }

    private static void face(Check check) {
        Class<?> c = PavingTrust.class;
        check.due("BAD", PavingTrust.BAD, -1);
        check.due("NOT", PavingTrust.NOT, -2);
        check.due("FULL", PavingTrust.FULL, -3);
        check.due("VOID", PavingTrust.VOID, -2000000000);
        check.holds("public and final", Modifier.isPublic(c.getModifiers()) && Modifier.isFinal(c.getModifiers()));
        TreeSet<String> fields = new TreeSet<>();
        for (Field f : c.getDeclaredFields()) {
            check.holds("static only if final: " + f, !Modifier.isStatic(f.getModifiers()) || Modifier.isFinal(f.getModifiers()));
            if (!Modifier.isPrivate(f.getModifiers())) {
                fields.add(f.getName());
            }
        }
        check.holds("visible constants " + fields, fields.toString().equals("[BAD, FULL, NOT, VOID]"));
        Constructor<?>[] made = c.getDeclaredConstructors();
        check.due("constructors", made.length, 1);
        check.holds("public constructor without arguments", Modifier.isPublic(made[0].getModifiers()) && made[0].getParameterCount() == 0);
        TreeSet<String> got = new TreeSet<>();
        for (Method m : c.getDeclaredMethods()) {
            if (!Modifier.isPrivate(m.getModifiers())) {
                check.holds("public int " + m, Modifier.isPublic(m.getModifiers()) && m.getReturnType() == int.class);
                for (Class<?> p : m.getParameterTypes()) {
                    check.holds("int of " + m, p == int.class);
                }
                got.add(m.getName() + m.getParameterCount());
            }
        }
        TreeSet<String> want = new TreeSet<>(java.util.List.of(METHODS.split(" ")));
        check.holds("methods " + got, got.equals(want));
    }

    private static void noNameTwice(Check check) {
        TreeSet<String> names = new TreeSet<>();
        for (String method : METHODS.split(" ")) {
            names.add(method.substring(0, method.length() - 1));
        }
        for (Method m : PavingTrust.class.getDeclaredMethods()) {
            check.holds("name of a public one: " + m, !Modifier.isPrivate(m.getModifiers()) || !names.contains(m.getName()));
        }
        Class<?>[] inside = PavingTrust.class.getDeclaredClasses();
        check.holds("classes " + inside.length, inside.length <= 12);
        for (Class<?> c : inside) {
            check.holds("static " + c, Modifier.isStatic(c.getModifiers()) && !Modifier.isPublic(c.getModifiers()));
            for (Method m : c.getDeclaredMethods()) {
                check.holds("name of a public one: " + m, !names.contains(m.getName()));
                check.holds("parameters of " + m, m.getParameterCount() <= 7);
            }
            int fields = 0;
            for (Field f : c.getDeclaredFields()) {
                fields += Modifier.isStatic(f.getModifiers()) ? 0 : 1;
                check.holds("static only if final: " + f, !Modifier.isStatic(f.getModifiers()) || Modifier.isFinal(f.getModifiers()));
            }
            check.holds("fields of " + c, fields <= 20);
        }
    }

    private static void source(Check check, String source) {
        String code = source.replaceAll("/\\*\\*(?s:.*?)\\*/", "").replaceAll("//[^\n]*", "");
        for (String banned : BANNED) {
            check.holds("no " + banned, !java.util.regex.Pattern.compile(banned).matcher(code).find());
        }
        for (String line : code.split("\n")) {
            check.holds(line, !line.startsWith("import") || line.matches("import java\\.util\\.(Arrays|ArrayList|List|Iterator);"));
            check.holds(line, !line.startsWith("package"));
        }
        for (int i = 0; i < source.length(); i++) {
            check.holds("sign at " + i, source.charAt(i) < 127);
        }
    }
}
