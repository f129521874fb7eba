import java.lang.reflect.Method;

/** What is refused changes nothing: each argument of each call just outside of its range, and each NOT and FULL. */
public final class RefusedEdgesTest {
    private static final Sentences S = new Sentences();
    private static final Check CHECK = new Check();
    private static final int BAD = PavingTrust.BAD, NOT = PavingTrust.NOT, FULL = PavingTrust.FULL, VOID = PavingTrust.VOID;

    /** A call's name, its refusal, then for each argument one that is good, the least and the greatest (of ready()). */
    private static final Object[][] RANGES = {
        {"street", BAD, new int[][] {{2, 1, 16}, {2, 1, 9}, {2, 0, 99}}},
        {"height", BAD, new int[][] {{0, 0, 6}, {1, 0, 2}, {1, 0, 3}, {7, 0, 99}}},
        {"read", BAD, new int[][] {{0, 0, 6}, {1, 0, 2}, {1, 0, 3}}},
        {"drain", BAD, new int[][] {{0, 0, 6}, {1, 0, 2}, {1, 0, 3}, {1, 0, 1}}},
        {"water", BAD, new int[][] {{0, 0, 6}, {1, 0, 2}, {1, 0, 3}}},
        {"standing", BAD, new int[][] {{0, 0, 6}}},
        {"most", BAD, new int[][] {{0, 0, 6}}},
        {"level", BAD, new int[][] {{0, 0, 6}, {1, 0, 2}, {1, 0, 3}, {55, 0, 99}}},
        {"levelled", BAD, new int[][] {{1, 0, 3}}},
        {"stones", BAD, new int[][] {{1, 1, 9}, {1, 1, 99}}},
        {"course", BAD, new int[][] {{7, 1, 60}}},
        {"of", BAD, new int[][] {{7, 1, 9}}},
        {"lay", BAD, new int[][] {{7, 1, 60}}},
        {"wheels", BAD, new int[][] {{0, 0, 6}, {1, 0, 5}, {9, -1, 9999}}},
        {"pave", BAD, new int[][] {{0, 0, 6}}},
        {"wear", BAD, new int[][] {{0, 0, 6}, {1, 0, 40}}},
        {"cost", BAD, new int[][] {{0, 0, 6}, {50, 5, 9999}, {5, 0, 50}, {3, 0, 40}}},
        {"plan", BAD, new int[][] {{3, 1, 126}, {3, 1, 3}, {9, 0, 99999}, {0, 0, 99999}, {0, 0, 99999}}},
        {"planned", BAD, new int[][] {{1, 0, 2}}},
        {"days", BAD, new int[][] {{7, 1, 100}}},
        {"feed", BAD, new int[][] {{2, 1, 4}, {49, Integer.MIN_VALUE, Integer.MAX_VALUE}}},
        {"act", BAD, new int[][] {{0, 0, 1}, {7, 0, 9999}}},
        {"inForce", BAD, new int[][] {{0, 0, 1}, {7, 0, 9999}, {7, 0, 9999}}},
        {"rate", VOID, new int[][] {{0, 0, 2}, {7, 0, 9999}, {7, 0, 9999}}},
        {"rates", VOID, new int[][] {{0, 0, 6}, {7, 0, 9999}}},
        {"clause", BAD, new int[][] {{0, 0, 2}, {9, 0, 9999}}},
        {"open", BAD, new int[][] {{0, 0, 3}, {0, 0, 6}, {18, 16, 19}, {7, 1, 99}}},
        {"back", BAD, new int[][] {{1, 0, 2}}},
        {"penalty", VOID, new int[][] {{0, 0, 2}, {7, 0, 9}, {7, 0, 9999}}},
        {"sink", BAD, new int[][] {{0, 0, 6}, {17, 16, 19}}},
        {"opening", NOT, new int[][] {{0, 0, 2}, {3, 0, 5}}},
        {"draw", BAD, new int[][] {{20, 10, 40}, {10, 1, 20}, {7, Integer.MIN_VALUE, Integer.MAX_VALUE}}},
        {"drawn", BAD, new int[][] {{0, 0, 4}}},
        {"bad", BAD, new int[][] {{20, 10, 40}, {10, 2, 20}, {2, 0, 10}, {500, 1, 9999}}},
        {"count", BAD, new int[][] {{0, 0, 8}}},
    };

    public static void main(String[] args) throws ReflectiveOperationException {
        theFour();
        outsideOfRanges();
        wrongHouses();
        insideOfRanges();
        namedFirst();
        notChangesNothing();
        fullChangesNothing();
        twoObjects();
        fiveHundredAndTwelve();
        S.end(1, 0);
        CHECK.end();
    }

    /** Something of all, and room for more of it: seven streets of 3 rows and 4 columns, year 5, day 9. */
    private static PavingTrust ready() {
        PavingTrust x = new PavingTrust();
        for (int i = 0; i < 7; i++) {
            x.street(3, 4, 50);
            x.height(i, 1, 1, 40 + i);
            x.drain(i, 2, i % 4, 1);
            x.wheels(i, 0, 10 + i);
            x.cost(i, 5 + i, i % 5, 6);
        }
        for (int y = 0; y < 5; y++) {
            x.year();
        }
        x.pave(3);
        x.plan(7, 2, 5, 20, 0);
        for (int size = 1; size <= 9; size++) {
            x.stones(size, 10 + size);
        }
        x.course(7);
        x.level(0, 1, 2, 12);
        x.house(7, -1, 100);
        x.house(108, 9, 200);
        x.house(310, -1, 300);
        Tape.act(x, 0, 0, "f>8?v*2;f+s");
        x.open(0, 0, 0, 3);
        x.days(4);
        Tape.act(x, 1, 2, "d*10+l");
        x.open(1, 3, 17, 3);
        x.open(2, 6, 35, 3);
        x.days(5);
        x.draw(9, 5, 77);
        Tape.feed(x, "f+v");
        return x;
    }

    private static int call(PavingTrust x, String name, int... arguments) throws ReflectiveOperationException {
        Class<?>[] types = new Class<?>[arguments.length];
        Object[] values = new Object[arguments.length];
        for (int i = 0; i < arguments.length; i++) {
            types[i] = int.class;
            values[i] = arguments[i];
        }
        Method method = PavingTrust.class.getMethod(name, types);
        return (int) method.invoke(x, values);
    }

    private static int[] goodArguments(Object[] row) {
        int[][] ranges = (int[][]) row[2];
        int[] good = new int[ranges.length];
        for (int i = 0; i < good.length; i++) {
            good[i] = ranges[i][0];
        }
        return good;
    }

    private static void theFour() throws ReflectiveOperationException {
        S.terms("BAD (-1)");
        S.terms("NOT (-2)");
        S.terms("FULL (-3)");
        S.terms("VOID is -2000000000.");
        String[] names = {"BAD", "NOT", "FULL", "VOID"};
        int[] due = {-1, -2, -3, -2000000000};
        for (int i = 0; i < 4; i++) {
            S.due(names[i], PavingTrust.class.getField(names[i]).getInt(null), due[i]);
        }
        PavingTrust x = new PavingTrust();
        S.due("read", x.read(0, 0, 0), -1);
        S.due("move", x.move(), -2);
        S.due("rate", x.rate(0, 0, 0), -2000000000);
        for (int i = 0; i < 8; i++) {
            x.street(1, 1, 1);
        }
        S.due("street", x.street(1, 1, 1), -3);
    }

    private static void outsideOfRanges() throws ReflectiveOperationException {
        S.terms("BAD (-1): no such street, square, house, opening, or a number is not as said");
        S.terms("What is answered so changes nothing.");
        for (Object[] row : RANGES) {
            String name = (String) row[0];
            int[][] ranges = (int[][]) row[2];
            PavingTrust x = ready();
            for (int i = 0; i < ranges.length; i++) {
                for (int wrong : Sentences.outside(ranges[i][1], ranges[i][2])) {
                    int[] arguments = goodArguments(row);
                    arguments[i] = wrong;
                    S.due(name + ", argument " + i + ": " + wrong, call(x, name, arguments), (int) row[1]);
                }
            }
            Same.compare(CHECK, x, ready());
        }
    }

    private static void wrongHouses() {
        S.terms("BAD (-1): no such street, square, house, opening, or a number is not as said");
        S.terms("What is answered so changes nothing.");
        int[][] wrong = {{0, -1, 7}, {100, -1, 7}, {700, -1, 7}, {701, -1, 7}, {-1, -1, 7}, {-101, -1, 7}, {107, 0, 7}, {107, 200, 7},
            {107, 701, 7}, {107, -2, 7}, {107, 108, 7}, {107, 107, 7}, {107, -1, -1}, {107, -1, 1000}, {107, 207, -1}, {107, 207, 1000},
            {Integer.MIN_VALUE, -1, 7}, {Integer.MAX_VALUE, -1, 7}, {107, Integer.MIN_VALUE, 7}, {107, Integer.MAX_VALUE, 7}};
        PavingTrust x = ready();
        for (int[] w : wrong) {
            S.due("house(" + w[0] + ", " + w[1] + ", " + w[2] + ")", x.house(w[0], w[1], w[2]), BAD);
        }
        Same.compare(CHECK, x, ready());
    }

    private static void insideOfRanges() throws ReflectiveOperationException {
        S.terms("BAD (-1): no such street, square, house, opening, or a number is not as said");
        for (Object[] row : RANGES) {
            String name = (String) row[0];
            int[][] ranges = (int[][]) row[2];
            for (int i = 0; i < ranges.length; i++) {
                for (int end = 1; end <= 2; end++) {
                    int[] arguments = goodArguments(row);
                    arguments[i] = ranges[i][end];
                    int answer = call(ready(), name, arguments);
                    S.holds(name + ", argument " + i + ": " + arguments[i] + " answered " + answer, answer != (int) row[1]);
                }
            }
        }
    }

    private static void namedFirst() {
        S.terms("Answers, of several the one named first: BAD (-1)");
        PavingTrust x = notReady();
        S.due("stones: BAD, not NOT", x.stones(9, 100), BAD);
        S.due("course: BAD, not NOT", x.course(0), BAD);
        S.due("lay: BAD, not NOT", x.lay(61), BAD);
        S.due("inForce: BAD, not NOT", x.inForce(1, 0, -1), BAD);
        S.due("clause: BAD, not NOT", x.clause(0, 10000), BAD);
        S.due("open: BAD, not NOT", x.open(4, 0, 0, 5), BAD);
        S.due("sink: BAD, not NOT", x.sink(0, 3), BAD);
        PavingTrust y = filled();
        S.due("street: BAD, not FULL", y.street(17, 1, 1), BAD);
        S.due("house: BAD, not FULL", y.house(1, -1, 1000), BAD);
        S.due("feed: BAD, not FULL", y.feed(5, 0), BAD);
        S.due("act: BAD, not FULL", y.act(2, 0), BAD);
        S.due("a text with a fault, when there are twenty acts: FULL", y.feed(1, '?'), 160);
        S.due("a text with a fault, when there are twenty acts: FULL", y.act(0, 0), FULL);
        S.due("it stays", y.count(7), 160);
        PavingTrust z = allOpened();
        S.due("open: BAD, not FULL", z.open(0, 0, 2, 1), BAD);
    }

    private static void notChangesNothing() {
        S.terms("NOT (-2): as told");
        S.terms("What is answered so changes nothing.");
        PavingTrust x = notReady();
        S.due("move", x.move(), NOT);
        S.due("stones", x.stones(9, 99), NOT);
        S.due("course", x.course(1), NOT);
        S.due("lay", x.lay(1), NOT);
        S.due("year", x.year(), NOT);
        S.due("planned", x.planned(0), NOT);
        S.due("inForce", x.inForce(1, 0, 0), NOT);
        S.due("clause", x.clause(0, 0), NOT);
        S.due("open", x.open(1, 0, 0, 5), NOT);
        S.due("back", x.back(0), NOT);
        S.due("sink", x.sink(0, 2), NOT);
        Same.compare(CHECK, x, notReady());
    }

    /** As ready(), but so that all calls that can answer NOT do. */
    private static PavingTrust notReady() {
        PavingTrust x = new PavingTrust();
        x.street(2, 3, 50);
        x.height(0, 1, 1, 40);
        x.level(0, 1, 1, 33);
        x.height(0, 1, 1, 41);
        for (int i = 0; i < 10; i++) {
            x.stones(9, 98);
        }
        x.course(9);
        x.wheels(0, 0, 10);
        for (int i = 0; i < 30; i++) {
            x.year();
        }
        x.cost(0, 5, 0, 0);
        x.plan(1, 1, 4, 0, 0);
        x.house(1, -1, 5);
        Tape.act(x, 0, 0, "f>1?1");
        x.open(0, 0, 1, 1);
        x.days(1);
        x.back(0);
        x.days(1);
        x.open(0, 0, 0, 1);
        Tape.feed(x, "f+v");
        return x;
    }

    private static void fullChangesNothing() {
        S.terms("FULL (-3)");
        S.terms("What is answered so changes nothing.");
        PavingTrust x = filled();
        S.due("street", x.street(1, 1, 1), FULL);
        S.due("house", x.house(1, -1, 1), FULL);
        S.due("feed", x.feed(2, 0x3131), FULL);
        S.due("act", x.act(0, 0), FULL);
        Same.compare(CHECK, x, filled());
        PavingTrust y = allOpened();
        S.due("open", y.open(1, 0, 1, 1), FULL);
        Same.compare(CHECK, y, allOpened());
    }

    private static PavingTrust filled() {
        PavingTrust x = new PavingTrust();
        for (int i = 0; i < 8; i++) {
            x.street(2, 2, i);
        }
        for (int i = 0; i < 60; i++) {
            x.house(100 * (i % 8) + 1 + i, -1, i);
        }
        for (int i = 0; i < 20; i++) {
            Tape.act(x, i % 2, i, "s+" + i);
        }
        Tape.feed(x, "1+".repeat(79) + "1");
        return x;
    }

    private static PavingTrust allOpened() {
        PavingTrust x = new PavingTrust();
        x.street(2, 2, 1);
        Tape.act(x, 1, 0, "d*10+n");
        for (int i = 0; i < 200; i++) {
            x.open(i % 4, 0, i % 2, 1);
            if (i < 199) {
                x.back(i);
            }
        }
        x.back(199);
        x.days(3);
        return x;
    }

    private static void twoObjects() {
        S.terms("All memory is the class's own.");
        PavingTrust earlier = ready();
        PavingTrust x = ready();
        PavingTrust later = ready();
        x.height(0, 0, 0, 1);
        x.move();
        x.lay(60);
        x.wheels(0, 1, 77);
        x.plan(1, 1, 0, 0, 0);
        x.draw(40, 40, 1);
        x.back(1);
        x.act(0, 0);
        Tape.act(x, 0, 0, "9");
        Same.compare(CHECK, earlier, ready());
        Same.compare(CHECK, later, ready());
    }

    private static void fiveHundredAndTwelve() {
        S.terms("An object is used for at most 512 calls after it has been made");
        PavingTrust x = new PavingTrust();
        x.street(16, 9, 99);
        int calls = 1;
        for (int i = 0; i < 200; i++) {
            S.due("open", x.open(i % 4, 0, 16 * (i / 9 % 16) + i % 9, 1), i < 144 ? i : NOT);
            calls++;
        }
        for (int i = 0; calls < 511; i++) {
            S.due("height", x.height(0, i / 9 % 16, i % 9, i % 100), i < 144 ? 99 : (i - 144) % 100);
            calls++;
        }
        S.due("the 512th call", x.count(4), 144);
    }
}
