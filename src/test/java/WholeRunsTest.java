import java.lang.reflect.InvocationTargetException;
import java.lang.reflect.Method;
import java.util.ArrayDeque;
import java.util.Arrays;
import java.util.Random;
import java.util.TreeMap;

/** Runs of 512 calls of all kinds, made by chance (fixed seeds); every answer is compared with that of PlainTrust. */
public final class WholeRunsTest {
    private static final int RUNS = 400;
    private static final int CALLS = 512;
    private static final Check CHECK = new Check();
    private static final String SIGNS = "0123456789fgvscydlwn()<=>+-*/%?; ";
    private static final TreeMap<String, Method> METHODS = new TreeMap<>();

    private final Random random;
    private final PlainTrust plain = new PlainTrust();
    private final PavingTrust trust = new PavingTrust();
    private final String[] names = METHODS.keySet().toArray(new String[0]);
    private final int[] weights = new int[names.length];
    /** Feeds and acts that belong to one text; other calls come between them. */
    private final ArrayDeque<int[]> writing = new ArrayDeque<>();
    private final int streetsAtFirst;
    /** Wide runs come to what is FULL; the others more often meet with the same squares, sizes and names again. */
    private final boolean isWide;

    private WholeRunsTest(int run) {
        random = new Random(run);
        isWide = run % 4 == 0;
        streetsAtFirst = random.nextInt(9);
        Arrays.fill(weights, 2);
        for (int i = random.nextInt(isWide ? 2 : 5); i >= 0; i--) {
            weights[random.nextInt(weights.length)] = isWide ? 400 : 40;
        }
    }

    public static void main(String[] args) throws Exception {
        for (Method m : PavingTrust.class.getDeclaredMethods()) {
            if (java.lang.reflect.Modifier.isPublic(m.getModifiers())) {
                METHODS.put(m.getName(), m);
            }
        }
        TreeMap<String, Integer> answers = new TreeMap<>();
        for (int run = 0; run < RUNS; run++) {
            new WholeRunsTest(run).play(run, answers);
        }
        if (args.length > 0) {
            System.out.println(answers);
        }
        allKindsMet(answers);
        CHECK.end();
    }

    /** The runs would tell little if some call never did what it is for, or were never refused as it can be. */
    private static void allKindsMet(TreeMap<String, Integer> answers) {
        for (String name : METHODS.keySet()) {
            CHECK.holds(name + " answered", answers.containsKey(name + " answered"));
        }
        String[] full = {"street", "house", "feed", "act", "open"};
        String[] not = {"move", "stones", "course", "lay", "year", "planned", "inForce", "clause", "open", "back", "sink"};
        for (String name : full) {
            CHECK.holds(name + " FULL", answers.containsKey(name + " FULL"));
        }
        for (String name : not) {
            CHECK.holds(name + " NOT", answers.containsKey(name + " NOT"));
        }
        CHECK.holds("act FAULT", answers.containsKey("act FAULT"));
    }

    private void play(int run, TreeMap<String, Integer> answers) throws ReflectiveOperationException {
        for (int i = 0; i < CALLS; i++) {
            String name = i < streetsAtFirst ? "street" : names[chooseName()];
            boolean isOfTape = name.equals("feed") || name.equals("act");
            if (isOfTape && writing.isEmpty() && random.nextInt(12) > 0) {
                write(random.nextInt(2));
            }
            boolean writes = !writing.isEmpty() && (isOfTape || random.nextInt(2) == 0);
            int[] a = writes ? writing.poll() : argumentsOf(name);
            if (writes) {
                name = a.length == 3 ? "act" : "feed";
            }
            int got = answerOf(name, a);
            int due = plain.call(name, a);
            answers.merge(name + " " + kindOf(name, due), 1, Integer::sum);
            CHECK.due("run " + run + ", call " + i + ": " + name + Arrays.toString(a), got, due);
        }
    }

    private int answerOf(String name, int[] a) throws ReflectiveOperationException {
        Method m = METHODS.get(name);
        Object[] given = new Object[m.getParameterCount()];
        for (int i = 0; i < given.length; i++) {
            given[i] = a[i];
        }
        try {
            return (Integer) m.invoke(trust, given);
        } catch (InvocationTargetException thrown) {
            System.out.println(name + Arrays.toString(a) + " threw " + thrown.getCause());
            return Integer.MIN_VALUE;
        }
    }

    private static String kindOf(String name, int answer) {
        if (name.equals("act") && answer <= -100) {
            return "FAULT";
        }
        switch (answer) {
            case PavingTrust.BAD: return "BAD";
            case PavingTrust.NOT: return "NOT";
            case PavingTrust.FULL: return "FULL";
            case PavingTrust.VOID: return "VOID";
            default: return "answered";
        }
    }

    private int chooseName() {
        int place = random.nextInt(Arrays.stream(weights).sum());
        int i = 0;
        while (place >= weights[i]) {
            place -= weights[i];
            i++;
        }
        return i;
    }

    // ---- arguments, mostly such as are taken

    private int from(int least, int greatest) {
        if (random.nextInt(60) == 0) {
            int[] outside = {least - 1, greatest + 1, Integer.MIN_VALUE, Integer.MAX_VALUE, random.nextInt(), -least - 2};
            return outside[random.nextInt(outside.length)];
        }
        if (greatest <= least) {
            return least;
        }
        int what = random.nextInt(12);
        return what == 0 ? least : what == 1 ? greatest : least + random.nextInt(greatest - least + 1);
    }

    private int street() {
        return from(0, Math.max(0, plain.streets.size() - 1));
    }

    private int rowOf(int street) {
        return from(0, PlainTrust.in(street, 0, plain.streets.size() - 1) ? plain.streets.get(street).height.length - 1 : 0);
    }

    private int columnOf(int street) {
        return from(0, PlainTrust.in(street, 0, plain.streets.size() - 1) ? plain.streets.get(street).height[0].length - 1 : 0);
    }

    private int[] square(int... behind) {
        int street = street();
        int[] a = new int[3 + behind.length];
        a[0] = street;
        a[1] = rowOf(street);
        a[2] = columnOf(street);
        System.arraycopy(behind, 0, a, 3, behind.length);
        return a;
    }

    private int small(int greatest) {
        return random.nextInt(3) == 0 ? from(0, greatest) : random.nextInt(Math.min(greatest, 12) + 1);
    }

    private int day() {
        return random.nextInt(3) == 0 ? from(0, 9999) : from(0, Math.max(1, plain.today));
    }

    private int opening() {
        return from(0, Math.max(0, plain.openings.size() - 1));
    }

    private int house() {
        return from(0, Math.max(0, plain.houses.size() - 1));
    }

    private int[] argumentsOf(String name) {
        switch (name) {
            case "street": return new int[] {from(1, 16), from(1, 9), from(0, 99)};
            case "height": return square(random.nextInt(2) == 0 ? from(0, 99) : 40 + random.nextInt(8));
            case "read": case "water": return square();
            case "drain": return square(from(0, 1));
            case "level": return square(random.nextInt(4) == 0 ? from(0, 99) : 10 * from(0, 5) + from(4, 9));
            case "levelled": return new int[] {from(0, 8)};
            case "stones": return new int[] {from(1, 9), isWide ? from(1, 99) : 1 + random.nextInt(3)};
            case "course": case "lay": return new int[] {from(1, 60)};
            case "of": return new int[] {from(1, 9)};
            case "standing": case "most": case "pave": case "planned": return new int[] {street()};
            case "wheels": return new int[] {street(), from(0, plain.thisYear), random.nextInt(5) == 0 ? -1 : small(9999)};
            case "wear": return new int[] {street(), from(0, 40)};
            case "cost": return costs();
            case "plan": return plans();
            default: return argumentsOfActs(name);
        }
    }

    private int[] argumentsOfActs(String name) {
        switch (name) {
            case "house": return new int[] {place(), random.nextInt(2) == 0 ? -1 : place(), from(0, 999)};
            case "days": return new int[] {random.nextInt(2) == 0 ? from(1, 100) : 1 + random.nextInt(5)};
            case "feed": return new int[] {from(1, 4), random.nextInt()};
            case "act": return new int[] {from(0, 1), day()};
            case "inForce": return new int[] {from(0, 1), day(), day()};
            case "rate": return new int[] {house(), day(), day()};
            case "rates": return new int[] {street(), day()};
            case "clause": return new int[] {house(), day()};
            case "open": return atOf(from(0, 3), street(), from(1, 99));
            case "back": return new int[] {opening()};
            case "penalty": return new int[] {opening(), from(0, plain.today), day()};
            case "sink": return Arrays.copyOfRange(atOf(0, street(), 1), 1, 3);
            case "opening": return new int[] {opening(), from(0, 5)};
            case "draw": return draws(random.nextInt());
            case "drawn": return new int[] {from(0, 20)};
            case "bad": return draws(0, from(1, 9999));
            case "count": return new int[] {from(0, 8)};
            default: return new int[0];
        }
    }

    private int[] costs() {
        int cost = from(1, random.nextInt(3) == 0 ? 9999 : 9);
        return new int[] {street(), cost, from(0, Math.max(0, Math.min(cost, 9999))), plain.thisYear + from(0, 3)};
    }

    private int[] plans() {
        int set = 0;
        for (int i = 0; i < plain.streets.size(); i++) {
            boolean takes = plain.streets.get(i).cost > 0 && random.nextInt(4) > 0;
            set |= takes ? 1 << i : 0;
        }
        int n = from(1, 3);
        return new int[] {random.nextInt(20) == 0 ? from(0, 511) : set, n, small(99999),
            n >= 2 ? small(99999) : from(0, 0), n >= 3 ? small(99999) : from(0, 0)};
    }

    private int place() {
        return random.nextInt(30) == 0 ? from(0, 899) : 100 * street() + from(1, 99);
    }

    /** Squares at the street's beginning, so that the same are opened again. */
    private int[] atOf(int company, int street, int leave) {
        int at = isWide ? 16 * rowOf(street) + columnOf(street) : 16 * (rowOf(street) / 3) + columnOf(street) / 3;
        return new int[] {company, street, at, leave};
    }

    private int[] draws(int last, int... behind) {
        int all = from(1, 40);
        int n = from(1, Math.max(1, Math.min(all, 40)));
        return behind.length == 0 ? new int[] {all, n, last} : new int[] {all, n, from(0, Math.max(0, Math.min(n, 3))), behind[0]};
    }

    // ---- texts

    private void write(int kind) {
        StringBuilder text = new StringBuilder();
        for (int i = random.nextInt(isWide ? 2 : 5); i >= 0; i--) {
            text.append(expression(kind, 0));
            text.append(random.nextInt(3) > (i > 0 ? 0 : 1) ? "?" + expression(kind, 0) : "");
            text.append(i > 0 || random.nextInt(4) == 0 ? ";" : "");
        }
        if (random.nextInt(3) == 0) {
            int place = random.nextInt(text.length());
            text.replace(place, place + random.nextInt(2), "" + SIGNS.charAt(random.nextInt(SIGNS.length())));
        }
        for (int i = 0; i < text.length();) {
            int n = Math.min(1 + random.nextInt(4), text.length() - i);
            int v = random.nextInt();
            for (int j = 0; j < n; j++, i++) {
                v = v & ~(255 << 8 * j) | text.charAt(i) << 8 * j;
            }
            writing.add(new int[] {n, v});
        }
        // a third number marks the act behind its feeds
        writing.add(new int[] {random.nextInt(20) == 0 ? 1 - kind : kind, day(), 0});
    }

    private String expression(int kind, int depth) {
        int what = random.nextInt(depth > 4 || isWide ? 3 : 7);
        if (what == 0) {
            return String.valueOf(random.nextInt(3) == 0 ? random.nextInt(1030000) : random.nextInt(12));
        }
        if (what == 1 && depth == 0 && random.nextInt(3) == 0) {
            int open = 9 + random.nextInt(3);
            return "(".repeat(open) + expression(kind, 5) + ")".repeat(open);
        }
        if (what <= 2) {
            return String.valueOf(PlainText.NAMES[kind].charAt(random.nextInt(PlainText.NAMES[kind].length())));
        }
        String left = expression(kind, depth + 1);
        String right = expression(kind, depth + 1);
        String joined = left + "<=>+-*/%".charAt(random.nextInt(8)) + right;
        return random.nextInt(2) == 0 || depth > 0 && joined.matches(".*[<=>].*") ? "(" + joined + ")" : joined;
    }
}
