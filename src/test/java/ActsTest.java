import java.util.Random;

/** Promises 23 to 30: houses, days, the tape, acts and what their texts give. */
public final class ActsTest {
    private static final Check CHECK = new Check();
    private static final int VOID = PavingTrust.VOID;
    private static final int[] EDGES = {Integer.MIN_VALUE, -2, Integer.MAX_VALUE};
    private static final String[] NAMES = {"fgvscy", "dlwsn"};

    public static void main(String[] args) {
        houses();
        days();
        tape();
        actRefused();
        actFull();
        faultsByHand();
        faultsByChance();
        inForce();
        rates();
        ratesRefused();
        textsByHand();
        textsByChance();
        clauses();
        CHECK.end();
    }

    private static PavingTrust withStreets(int n) {
        PavingTrust x = new PavingTrust();
        for (int i = 0; i < n; i++) {
            x.street(2, 2, 5);
        }
        return x;
    }

    private static void houses() {
        PavingTrust x = withStreets(3);
        int[][] wrong = {{0, -1, 5}, {100, -1, 5}, {301, -1, 5}, {-1, -1, 5}, {-101, -1, 5}, {1, 0, 5}, {1, -2, 5}, {1, 100, 5},
            {1, 399, 5}, {1, 99, 5}, {201, 202, 5}, {1, -1, -1}, {1, -1, 1000}, {Integer.MAX_VALUE, -1, 5},
            {Integer.MIN_VALUE, -1, 5}, {1, Integer.MAX_VALUE, 5}, {1, Integer.MIN_VALUE, 5}, {1, -1, Integer.MIN_VALUE}};
        for (int[] w : wrong) {
            CHECK.due("house wrong " + w[0], x.house(w[0], w[1], w[2]), -1);
        }
        CHECK.due("none", x.count(1), 0);
        CHECK.due("house", x.house(1, -1, 0), 0);
        CHECK.due("corner", x.house(299, 101, 999), 1);
        for (int i = 2; i < 60; i++) {
            CHECK.due("house", x.house(1, 101, 5), i);
        }
        CHECK.due("house full", x.house(1, 101, 5), -3);
        CHECK.due("wrong ahead of full", x.house(1, 2, 5), -1);
        CHECK.due("sixty", x.count(1), 60);
        Tape.act(x, 0, 0, "f");
        CHECK.due("the last one", x.rate(59, 0, 0), 2);
        CHECK.due("none behind the last one", x.rate(60, 0, 0), VOID);
        CHECK.due("all sixty", x.rates(0, 0), 59);
        CHECK.due("all sixty", x.rates(1, 0), 59);
    }

    private static void days() {
        PavingTrust x = new PavingTrust();
        int[] wrong = {0, -1, 101, Integer.MAX_VALUE, Integer.MIN_VALUE};
        for (int w : wrong) {
            CHECK.due("days wrong", x.days(w), -1);
        }
        CHECK.due("one day", x.days(1), 1);
        for (int i = 0; i < 99; i++) {
            x.days(100);
        }
        CHECK.due("days", x.count(5), 9901);
        CHECK.due("beyond", x.days(99), -1);
        CHECK.due("the last day", x.days(98), 9999);
        CHECK.due("beyond", x.days(1), -1);
        CHECK.due("the last day", x.count(5), 9999);
        CHECK.due("passed on the last day", Tape.act(x, 0, 9999, "1"), 0);
        CHECK.due("in force on the last day", x.inForce(0, 9999, 9999), 0);
        CHECK.due("not known the day ahead", x.inForce(0, 9999, 9998), -2);
        CHECK.due("not in force the day ahead", x.inForce(0, 9998, 9999), -2);
    }

    private static void tape() {
        PavingTrust x = withStreets(1);
        x.house(1, -1, 5);
        int[] wrong = {0, 5, -1, Integer.MAX_VALUE, Integer.MIN_VALUE};
        for (int w : wrong) {
            CHECK.due("feed wrong", x.feed(w, 1), -1);
        }
        CHECK.due("the lowest first, no more than n", x.feed(3, 'f' | '+' << 8 | '2' << 16 | '?' << 24), 3);
        CHECK.due("tape", x.count(7), 3);
        CHECK.due("act", x.act(0, 0), 0);
        CHECK.due("tape empty", x.count(7), 0);
        CHECK.due("text", x.rate(0, 0, 0), 3);
        for (int i = 1; i <= 39; i++) {
            CHECK.due("feed", x.feed(4, '0' * 0x01010101), 4 * i);
        }
        CHECK.due("feed", x.feed(3, '+' * 0x01010101), 159);
        CHECK.due("feed full", x.feed(2, 0), -3);
        CHECK.due("wrong ahead of full", x.feed(5, 0), -1);
        CHECK.due("as many as before", x.count(7), 159);
        CHECK.due("feed last", x.feed(1, 255), 160);
        CHECK.due("feed full", x.feed(1, 0), -3);
        CHECK.due("seventh digit", x.act(0, 0), -106);
        StringBuilder longest = new StringBuilder("1");
        while (longest.length() < 159) {
            longest.append("+1");
        }
        CHECK.due("160 bytes", Tape.feed(x, longest + ";"), 160);
        CHECK.due("160 bytes", x.act(0, 0), 1);
        CHECK.due("160 bytes", x.rate(0, 0, 0), 80);
        CHECK.due("ends too early", Tape.act(x, 0, 0, longest + "+"), -260);
        CHECK.due("bytes above 127", Tape.act(x, 0, 0, "1" + (char) 255), -101);
        CHECK.due("byte 0", Tape.act(x, 0, 0, "1" + (char) 0), -101);
    }

    private static void actRefused() {
        PavingTrust x = new PavingTrust();
        Tape.feed(x, "1");
        int[][] wrong = {{-1, 0}, {2, 0}, {0, -1}, {0, 10000}, {Integer.MIN_VALUE, 0}, {1, Integer.MAX_VALUE}};
        for (int[] w : wrong) {
            CHECK.due("act wrong", x.act(w[0], w[1]), -1);
        }
        CHECK.due("the tape stays", x.count(7), 1);
        CHECK.due("act", x.act(1, 9999), 0);
        CHECK.due("the tape is empty", x.act(1, 9999), -100);
        CHECK.due("acts", x.count(2), 1);
        CHECK.due("a fault", Tape.act(x, 0, 0, "f+"), -102);
        CHECK.due("empties the tape", x.count(7), 0);
        CHECK.due("and is no act", x.count(2), 1);
    }

    private static void actFull() {
        PavingTrust x = new PavingTrust();
        for (int i = 0; i < 20; i++) {
            CHECK.due("act", Tape.act(x, i % 2, 0, "s"), i);
        }
        CHECK.due("act full", Tape.act(x, 0, 0, "s"), -3);
        CHECK.due("the tape stays", x.count(7), 1);
        CHECK.due("wrong ahead of full", x.act(2, 0), -1);
        CHECK.due("twenty", x.count(2), 20);
    }

    private static void faultsByHand() {
        String[] good = {"1", "1;", "f?1", "f?1;2", "f?1;2;", "1<2", "(1<2)<3", "(1<2)?(3=4)", "000000", "((1))", "f<g?v>s",
            "1;2;3?4;", "((((((((((1)))))))))+(1))"};
        for (String text : good) {
            CHECK.due(text, Tape.act(new PavingTrust(), 0, 0, text), 0);
        }
        String[] wrong = {"", ";", ";1", "1;;", "f?1?", "f?", "f?;", "1<", "1<2=3", ")", "1+)", "(1", "(1;1)", "(1?1)", "(1<2<3)",
            "1234567", "000000000", "f2", "12f", "fg", "(1)2", "(1)f", "(1)(1)", "()", "-1", "f--1", "+", "?", "<", " 1", "1 ", "F", "d",
            "l", "n", "w", "a", "((((((((((("};
        int[] fault = {0, 0, 0, 2, 3, 2, 2, 2, 3, 0, 2, 2, 2, 2, 4,
            6, 6, 1, 2, 1, 3, 3, 3, 1, 0, 2, 0, 0, 0, 0, 1, 0, 0,
            0, 0, 0, 0, 10};
        CHECK.due("as many", wrong.length, fault.length);
        for (int i = 0; i < wrong.length; i++) {
            CHECK.due(wrong[i], Tape.act(new PavingTrust(), 0, 0, wrong[i]), -100 - fault[i]);
        }
        everySign();
        CHECK.due("eleven one after another", Tape.act(new PavingTrust(), 0, 0, "(1)+".repeat(11) + "1"), 0);
        CHECK.due("ten at once, twice", Tape.act(new PavingTrust(), 0, 0, "((((((((((1))))))))))+((((((((((1))))))))))"), 0);
        CHECK.due("eleven at once", Tape.act(new PavingTrust(), 0, 0, "((((((((((1))))))))))+((((((((((("), -100 - 32);
    }

    private static void everySign() {
        for (int kind = 0; kind <= 1; kind++) {
            for (char c = 0; c < 256; c++) {
                boolean isGood = c >= '0' && c <= '9' || NAMES[kind].indexOf(c) >= 0;
                int fault = c == '(' ? -101 : -100;
                CHECK.due(kind + " " + (int) c, Tape.act(new PavingTrust(), kind, 0, "" + c), isGood ? 0 : fault);
            }
        }
    }

    /** The fault told by a machine of states and open brackets, without recursion; -1 if it is a text. */
    private static int faultOf(String text, int kind) {
        boolean[] compared = new boolean[11];
        boolean asked = false;
        boolean wants = true;
        boolean mayEnd = false;
        int open = 0;
        int digits = 0;
        for (int i = 0; i < text.length(); i++) {
            char c = text.charAt(i);
            boolean isDigit = c >= '0' && c <= '9';
            if (wants) {
                if (c == '(' && open < 10) {
                    open++;
                    compared[open] = false;
                } else if (isDigit || NAMES[kind].indexOf(c) >= 0) {
                    wants = false;
                    digits = isDigit ? 1 : 0;
                } else {
                    return i;
                }
                mayEnd = false;
            } else if (isDigit && digits > 0 && digits < 6) {
                digits++;
            } else if ("+-*/%".indexOf(c) >= 0) {
                wants = true;
            } else if ("<=>".indexOf(c) >= 0 && !compared[open]) {
                compared[open] = true;
                wants = true;
            } else if (c == ')' && open > 0) {
                open--;
                digits = 0;
            } else if (c == '?' && open == 0 && !asked) {
                asked = true;
                compared[0] = false;
                wants = true;
            } else if (c == ';' && open == 0) {
                asked = false;
                compared[0] = false;
                wants = true;
                mayEnd = true;
            } else {
                return i;
            }
        }
        return open == 0 && (!wants || mayEnd) ? -1 : text.length();
    }

    private static void faultsByChance() {
        Random random = new Random(6);
        String signs = "0123456789+-*/%<=>?;()()fgvscydlwn";
        for (int run = 0; run < 20000; run++) {
            int kind = run % 2;
            StringBuilder text = new StringBuilder();
            Tree tree = new Tree(random, kind);
            tree.text(text, 1 + random.nextInt(3), 3 + random.nextInt(3));
            for (int i = random.nextInt(3); i > 0 && text.length() > 0; i--) {
                int at = random.nextInt(text.length());
                char c = signs.charAt(random.nextInt(signs.length()));
                switch (random.nextInt(3)) {
                    case 0: text.setCharAt(at, c); break;
                    case 1: text.insert(at, c); break;
                    default: text.deleteCharAt(at); break;
                }
            }
            text.setLength(Math.min(text.length(), 160));
            String t = text.toString();
            int fault = faultOf(t, kind);
            CHECK.due(t, Tape.act(new PavingTrust(), kind, 0, t), fault < 0 ? 0 : -100 - fault);
        }
    }

    private static void inForce() {
        PavingTrust x = new PavingTrust();
        CHECK.due("act 0", Tape.act(x, 0, 10, "1"), 0);
        CHECK.due("act 1", Tape.act(x, 1, 0, "1"), 1);
        x.days(5);
        CHECK.due("act 2", Tape.act(x, 0, 0, "2"), 2);
        CHECK.due("act 3", Tape.act(x, 0, 20, "3"), 3);
        x.days(5);
        CHECK.due("act 4", Tape.act(x, 0, 3, "4"), 4);
        int[][] due = {{0, 9, 4, -2}, {0, 10, 4, 0}, {0, 0, 5, 2}, {0, 19, 5, 2}, {0, 20, 5, 3}, {0, 20, 9, 3}, {0, 20, 4, 0},
            {0, 20, 10, 4}, {0, 3, 10, 4}, {0, 2, 10, 2}, {0, 9999, 9999, 4}, {1, 0, 0, 1}, {1, 9999, 9999, 1}, {0, 0, 4, -2}};
        for (int[] d : due) {
            CHECK.due("inForce " + d[0] + " " + d[1] + " " + d[2], x.inForce(d[0], d[1], d[2]), d[3]);
        }
        int[][] wrong = {{-1, 0, 0}, {2, 0, 0}, {0, -1, 0}, {0, 10000, 0}, {0, 0, -1}, {0, 0, 10000}};
        for (int[] w : wrong) {
            CHECK.due("inForce wrong", x.inForce(w[0], w[1], w[2]), -1);
        }
        for (int e : EDGES) {
            CHECK.due("inForce edge", x.inForce(e, 0, 0) + x.inForce(0, e, 0) + x.inForce(0, 0, e), -3);
        }
    }

    private static void rates() {
        PavingTrust x = withStreets(3);
        x.house(110, -1, 7);
        x.house(220, 130, 500);
        x.house(1, 240, 0);
        CHECK.due("without an act", x.rate(0, 0, 0), 0);
        CHECK.due("without an act", x.rates(1, 0), 0);
        Tape.act(x, 0, 0, "f+g*100+s*10000+c*100000");
        CHECK.due("one street", x.rate(0, 0, 0), 10 + 10000);
        CHECK.due("a corner", x.rate(1, 0, 0), 20 + 3000 + 20000 + 100000 + 30 + 2000 + 10000 + 100000);
        CHECK.due("rates 0", x.rates(0, 0), 1 + 4000 + 100000);
        CHECK.due("rates 1", x.rates(1, 0), 10 + 10000 + 30 + 2000 + 10000 + 100000);
        CHECK.due("rates 2", x.rates(2, 0), 20 + 3000 + 20000 + 100000 + 40 + 100 + 20000 + 100000);
        x.days(100);
        Tape.act(x, 0, 50, "v+y*1000");
        CHECK.due("the year", x.rate(0, 364, 100), 7);
        CHECK.due("the year", x.rate(0, 365, 100), 1007);
        CHECK.due("the last year", x.rate(0, 9999, 100), 27007);
        CHECK.due("as known", x.rate(0, 365, 99), 10010);
        CHECK.due("as of the day", x.rate(0, 49, 100), 10010);
        CHECK.due("rates as known on the day", x.rates(0, 99), 104001);
        CHECK.due("rates as known on the day", x.rates(0, 100), 0);
        CHECK.due("rates of a later day", x.rates(0, 730), 2000);
        Tape.act(x, 0, 0, "f=1?0-5;999999+f");
        CHECK.due("0 at least", x.rate(2, 0, 100), 1000000);
        CHECK.due("1000000 at most, each", x.rate(1, 0, 100), 2000000);
        CHECK.due("each, of all houses", x.rates(1, 100), 2000000);
        CHECK.due("0 at least, of all houses", x.rates(0, 100), 0);
        CHECK.due("a street without houses", withStreets(1).rates(0, 0), 0);
    }

    private static void ratesRefused() {
        PavingTrust x = withStreets(1);
        x.house(1, -1, 5);
        Tape.act(x, 0, 0, "1");
        int[][] wrong = {{1, 0, 0}, {-1, 0, 0}, {0, -1, 0}, {0, 10000, 0}, {0, 0, -1}, {0, 0, 10000},
            {Integer.MIN_VALUE, 0, 0}, {0, Integer.MAX_VALUE, 0}, {0, 0, Integer.MIN_VALUE}};
        for (int[] w : wrong) {
            CHECK.due("rate wrong", x.rate(w[0], w[1], w[2]), VOID);
            if (w[2] == 0) {
                CHECK.due("rates wrong", x.rates(w[0], w[1]), VOID);
                CHECK.due("clause wrong", x.clause(w[0], w[1]), -1);
            }
        }
        CHECK.due("rate", x.rate(0, 9999, 9999), 1);
        CHECK.due("rates", x.rates(0, 9999), 1);
    }

    private static void textsByHand() {
        String[] text = {"7/2", "(0-7)/2+10", "(0-7)%4+10", "7%(0-4)", "7/0+1", "7%0+1", "999999*999999", "0-1", "2+3*4", "10-3-2",
            "100/5/2", "100%7*3", "1<2", "2<1", "2=2", "3>2", "2>2", "(1<2)+(3>2)", "1+1<3", "0?5;7", "0?5", "0?5;0?6", "1?2;3", "0-1?2;3",
            "5;6", "f>g?v;s", "1<2?3>2", "c", "3>2?0;9", "99999*99999*99999", "000012"};
        int[] due = {3, 7, 7, 3, 1, 1, Math.max(0, Math.min(1000000, 999999 * 999999)), 0, 14, 5, 10, 6, 1, 0, 1, 1, 0, 2, 1, 7, 0, 0, 2, 2,
            5, 5, 1, 0, 0, Math.max(0, Math.min(1000000, 99999 * 99999 * 99999)), 12};
        for (int i = 0; i < text.length; i++) {
            PavingTrust x = withStreets(1);
            x.house(1, -1, 5);
            CHECK.due(text[i], Tape.act(x, 0, 0, text[i]), 0);
            CHECK.due(text[i], x.rate(0, 0, 0), due[i]);
        }
        PavingTrust x = withStreets(1);
        x.house(1, -1, 5);
        String least = "(0-32768)*65536";
        Tape.act(x, 0, 0, least + "/(0-1)=" + least);
        CHECK.due("the least int by -1 wraps", x.rate(0, 0, 0), 1);
        Tape.act(x, 0, 0, least + "%(0-1)=0");
        CHECK.due("the least int by -1 leaves 0", x.rate(0, 0, 0), 1);
        Tape.act(x, 0, 0, least + "-1>0");
        CHECK.due("ints wrap", x.rate(0, 0, 0), 1);
    }

    private static void textsByChance() {
        Random random = new Random(7);
        for (int run = 0; run < 4000; run++) {
            PavingTrust x = withStreets(4);
            int first = random.nextInt(4);
            int second = (first + 1 + random.nextInt(3)) % 4;
            boolean corner = random.nextBoolean();
            int f = 1 + random.nextInt(99);
            int g = 1 + random.nextInt(99);
            int v = random.nextInt(1000);
            int day = random.nextInt(10000);
            x.house(100 * first + f, corner ? 100 * second + g : -1, v);
            Tree tree = new Tree(random, 0);
            StringBuilder text = new StringBuilder();
            tree.text(text, 1 + random.nextInt(4), 4);
            if (text.length() > 160) {
                continue;
            }
            CHECK.due(text.toString(), Tape.act(x, 0, 0, text.toString()), 0);
            tree.values = new int[] {f, corner ? g : 0, v, first, corner ? 1 : 0, day / 365};
            int due = tree.give();
            int clause = tree.given;
            int other = 0;
            if (corner) {
                tree.values = new int[] {g, f, v, second, 1, day / 365};
                other = tree.give();
            }
            CHECK.due("rate " + text, x.rate(0, day, 0), due + other);
            CHECK.due("rates " + text, x.rates(first, day), due);
            CHECK.due("rates " + text, x.rates(second, day), other);
            CHECK.due("clause " + text, x.clause(0, day), clause < 0 ? -2 : clause);
        }
    }

    private static void clauses() {
        PavingTrust x = withStreets(2);
        x.house(5, -1, 5);
        x.house(110, 5, 5);
        CHECK.due("without an act", x.clause(0, 0), -2);
        x.days(3);
        Tape.act(x, 0, 1, "f>9?1;f>4?0;s?3;");
        CHECK.due("the second, though it gives 0", x.clause(0, 3), 1);
        CHECK.due("of the first street", x.clause(1, 3), 0);
        CHECK.due("not known then", x.clause(0, 2), -2);
        Tape.act(x, 0, 0, "f>9?1;s>7?2");
        CHECK.due("none gives", x.clause(0, 3), -2);
        CHECK.due("one gives", x.clause(1, 9999), 0);
        Tape.act(x, 0, 0, "0?1;0?1;0?1;7");
        CHECK.due("the last", x.clause(1, 3), 3);
    }

    /** Clauses made by chance, which give their value by their own tree and not by their text. */
    private static final class Tree {
        final Random random;
        final String names;
        final java.util.List<Node[]> clauses = new java.util.ArrayList<>();
        int[] values;
        int given;

        Tree(Random random, int kind) {
            this.random = random;
            names = NAMES[kind];
        }

        void text(StringBuilder out, int n, int depth) {
            for (int i = 0; i < n; i++) {
                boolean asks = random.nextInt(4) > 0;
                Node[] clause = {node(depth, 0), asks ? node(depth, 0) : null};
                clauses.add(clause);
                clause[0].write(out, names);
                if (asks) {
                    clause[1].write(out.append('?'), names);
                }
                out.append(i + 1 < n || random.nextBoolean() ? ";" : "");
            }
        }

        /** rank 0: may compare; 1: may add; 2: may multiply; 3: an operand. */
        Node node(int depth, int rank) {
            Node node = new Node();
            if (rank == 3 && depth > 0 && random.nextInt(3) == 0) {
                node.sign = '(';
                node.left = node(depth - 1, 0);
                return node;
            }
            if (rank == 3) {
                node.sign = random.nextBoolean() ? 'n' : 'd';
                node.number = node.sign == 'n' ? random.nextInt(names.length())
                        : random.nextInt(random.nextInt(3) == 0 ? 1000000 : 4);
                return node;
            }
            if (random.nextInt(2) == 0) {
                return node(depth - 1, rank + 1);
            }
            String signs = rank == 0 ? "<=>" : rank == 1 ? "+-" : "*/%";
            node.sign = signs.charAt(random.nextInt(signs.length()));
            // sums and products go on to the left, comparisons stand alone
            boolean goesOn = rank > 0 && depth > 0 && random.nextBoolean();
            node.left = node(depth - 1, goesOn ? rank : rank + 1);
            node.right = node(depth - 1, rank + 1);
            return node;
        }

        int give() {
            given = -1;
            for (int i = 0; i < clauses.size(); i++) {
                Node[] clause = clauses.get(i);
                if (clause[1] == null || clause[0].value(values) != 0) {
                    given = i;
                    return Math.max(0, Math.min(1000000, clause[clause[1] == null ? 0 : 1].value(values)));
                }
            }
            return 0;
        }
    }

    private static final class Node {
        char sign;
        int number;
        Node left;
        Node right;

        void write(StringBuilder out, String names) {
            if (sign == 'n') {
                out.append(names.charAt(number));
            } else if (sign == 'd') {
                out.append(number);
            } else if (sign == '(') {
                left.write(out.append('('), names);
                out.append(')');
            } else {
                left.write(out, names);
                right.write(out.append(sign), names);
            }
        }

        int value(int[] values) {
            switch (sign) {
                case 'n': return values[number];
                case 'd': return number;
                case '(': return left.value(values);
                default: return of(left.value(values), right.value(values));
            }
        }

        private int of(int a, int b) {
            switch (sign) {
                case '+': return a + b;
                case '-': return a - b;
                case '*': return a * b;
                case '/': return b == 0 ? 0 : (int) ((long) a / b);
                case '%': return b == 0 ? 0 : (int) ((long) a % b);
                case '<': return a < b ? 1 : 0;
                case '>': return a > b ? 1 : 0;
                default: return a == b ? 1 : 0;
            }
        }
    }
}
