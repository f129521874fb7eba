/** The sentences on the texts of acts that name a boundary; their faults and what they give. */
public final class TextsEdgesTest {
    private static final Sentences S = new Sentences();
    private static final int RATE = 0, PENALTY = 1;
    private static final int LEAST = Integer.MIN_VALUE;
    private static final String LEAST_TEXT = "(0-32768)*65536";

    public static void main(String[] args) {
        tapeHolds();
        oneClauseOrMore();
        oneAtTheEnd();
        oneTest();
        firstThatGives();
        comparisons();
        sumsAndProducts();
        digits();
        operands();
        noBlanks();
        tenOpen();
        intsThatWrap();
        towardsZero();
        signOfTheLeft();
        byZero();
        namesOfRate();
        namesOfPenalty();
        namesOfKinds();
        firstByte();
        endsTooEarly();
        S.end(1, 0);
    }

    private static void passes(int kind, String text) {
        S.due(text, Tape.act(new PavingTrust(), kind, 0, text), 0);
    }

    private static void faults(int kind, String text, int place) {
        S.due(text, Tape.act(new PavingTrust(), kind, 0, text), -100 - place);
    }

    /** What a text gives to a house of front 3 at street 0, a corner with front 4 at street 1, value 5, on day 0. */
    private static int gives(String text) {
        PavingTrust x = new PavingTrust();
        x.street(1, 1, 1);
        x.street(1, 1, 1);
        x.house(3, 104, 5);
        S.due(text, Tape.act(x, RATE, 0, text), 0);
        return x.rates(0, 0);
    }

    private static void given(String text, int due) {
        S.due(text + " gives", gives(text), due);
    }

    /** That an S is an int of any size, seen by comparing it with one written in parts of at most six digits. */
    private static void is(String sum, int due) {
        int high = Math.abs(due / 10000);
        int low = Math.abs(due % 10000);
        given(sum + "=" + (due < 0 ? "0-" + high + "*10000-" + low : high + "*10000+" + low), 1);
    }

    private static void tapeHolds() {
        S.terms("A TEXT: THE TAPE (at most 160 bytes)");
        PavingTrust x = new PavingTrust();
        S.due("160 bytes", Tape.feed(x, "1;".repeat(80)), 160);
        S.due("one more", x.feed(1, ';'), PavingTrust.FULL);
        S.due("they are a text", x.act(RATE, 0), 0);
        S.due("159 bytes", Tape.feed(x, "1;".repeat(79) + "1"), 159);
        S.due("they are a text", x.act(RATE, 0), 1);
        S.due("one byte", Tape.feed(x, "1"), 1);
        S.due("it is a text", x.act(RATE, 0), 2);
        given("1+".repeat(79) + "1;", 80);
    }

    private static void oneClauseOrMore() {
        S.terms("CLAUSES, one or more, parted by ;");
        faults(RATE, "", 0);
        faults(PENALTY, "", 0);
        faults(RATE, ";", 0);
        passes(RATE, "1");
        passes(RATE, "1;2");
        passes(RATE, "1;".repeat(80));
        faults(RATE, "1;;2", 2);
        faults(RATE, "1,2", 1);
        faults(RATE, ";1", 0);
    }

    private static void oneAtTheEnd() {
        S.terms("(one at the end may stand, too)");
        passes(RATE, "1;");
        passes(RATE, "1?2;");
        passes(RATE, "1;2;");
        faults(RATE, "1;;", 2);
        faults(RATE, "1;2;;", 4);
        given("0?1;", 0);
        given("0?1;7;", 7);
    }

    private static void oneTest() {
        S.terms("CLAUSE: E, or E ? E (the first one a TEST).");
        passes(RATE, "1?2");
        faults(RATE, "1?2?3", 3);
        passes(RATE, "1?2;3?4");
        faults(RATE, "?", 0);
        faults(RATE, "1?", 2);
        faults(RATE, "1?;", 2);
        faults(RATE, "1??2", 2);
        faults(RATE, "(1?2)", 2);
        given("1<2?3>4", 0);
        given("2>1?4>3", 1);
    }

    private static void firstThatGives() {
        S.terms("The TEXT gives what its first CLAUSE gives that is E alone, or whose TEST is not 0 (the E behind it); 0 if none does.");
        given("7;8", 7);
        given("0?7;8", 8);
        given("1?7;8", 7);
        given("0-1?7;8", 7);
        given(LEAST_TEXT + "?7;8", 7);
        given("0?7;0?8", 0);
        given("0?7", 0);
        given("0?7;1?8;9", 8);
        given("0;9", 0);
        given("1?0;9", 0);
        given("0?1;".repeat(39) + "5", 5);
    }

    private static void comparisons() {
        S.terms("E = S, or S < S, S = S, S > S (1 or 0).");
        for (int right = 4; right <= 6; right++) {
            given("5<" + right, 5 < right ? 1 : 0);
            given("5=" + right, 5 == right ? 1 : 0);
            given("5>" + right, 5 > right ? 1 : 0);
        }
        given(LEAST_TEXT + "<" + LEAST_TEXT + "-1", 1);
        given(LEAST_TEXT + ">" + LEAST_TEXT + "-1", 0);
        given(LEAST_TEXT + "<1", 1);
        faults(RATE, "1<2<3", 3);
        faults(RATE, "1=2=3", 3);
        faults(RATE, "1>2<3", 3);
        faults(RATE, "1<=2", 2);
        faults(RATE, "1<", 2);
        faults(RATE, "<1", 0);
        given("(1<2)<3", 1);
        given("3>(2>1)", 1);
        given("1+1=2", 1);
    }

    private static void sumsAndProducts() {
        S.terms("S = P { + P, - P }. P = O { * O, / O, % O }.");
        given("10-3-2", 5);
        given("10-3+2", 9);
        given("100/5/2", 10);
        given("100/5*2", 40);
        given("100%7*3", 6);
        given("2+3*4", 14);
        given("2*3+4", 10);
        given("20-9/3", 17);
        given("20-9%4", 19);
        faults(RATE, "+1", 0);
        faults(RATE, "-1", 0);
        faults(RATE, "1+", 2);
        faults(RATE, "1*", 2);
        faults(RATE, "1+-1", 2);
        faults(RATE, "1*/1", 2);
        faults(RATE, "*", 0);
        given("1" + "*1".repeat(79), 1);
    }

    private static void digits() {
        S.terms("a number (1 to 6 digits; a seventh is a FAULT at its place)");
        for (int n = 1; n <= 6; n++) {
            passes(RATE, "9".repeat(n));
            passes(PENALTY, "0".repeat(n));
        }
        faults(RATE, "1234567", 6);
        faults(RATE, "0000000", 6);
        faults(RATE, "9".repeat(160), 6);
        faults(RATE, "f+1234567", 8);
        faults(RATE, "(1234567)", 7);
        faults(RATE, "1?1234567", 8);
        given("999999", 999999);
        given("000007", 7);
        given("0", 0);
        given("9", 9);
        passes(RATE, "123456+123456");
    }

    private static void operands() {
        S.terms("a NAME, or ( E ).");
        given("f", 3);
        given("(f)", 3);
        given("(f<9)", 1);
        given("((f))*(2+1)", 9);
        faults(RATE, "()", 1);
        faults(RATE, "(", 1);
        faults(RATE, ")", 0);
        faults(RATE, "(1", 2);
        faults(RATE, "1)", 1);
        faults(RATE, "(1))", 3);
        faults(RATE, "(1;", 2);
        faults(RATE, "ff", 1);
        faults(RATE, "1f", 1);
        faults(RATE, "f1", 1);
        faults(RATE, "(1)1", 3);
        faults(RATE, "1(1)", 1);
    }

    private static void noBlanks() {
        S.terms("No blanks.");
        faults(RATE, " ", 0);
        faults(RATE, " 1", 0);
        faults(RATE, "1 ", 1);
        faults(RATE, "1 +1", 1);
        faults(RATE, "1+ 1", 2);
        faults(RATE, "1; 2", 2);
        faults(RATE, "1\n", 1);
        faults(RATE, "1\t", 1);
    }

    private static void tenOpen() {
        S.terms("At most 10 ( are open at once.");
        for (int n = 1; n <= 10; n++) {
            given("(".repeat(n) + "7" + ")".repeat(n), 7);
        }
        for (int n = 11; n <= 20; n++) {
            faults(RATE, "(".repeat(n) + "7" + ")".repeat(n), 10);
        }
        faults(RATE, "(".repeat(160), 10);
        faults(RATE, "(".repeat(10), 10);
        given("(1)+".repeat(11) + "1", 12);
        given("(".repeat(9) + "(1)+(2)" + ")".repeat(9), 3);
        faults(RATE, "(".repeat(9) + "(1)+((2))" + ")".repeat(9), 14);
        given("(".repeat(10) + "0" + ")".repeat(10) + "?1;" + "(".repeat(10) + "2" + ")".repeat(10), 2);
        given("0?" + "(".repeat(10) + "1" + ")".repeat(10) + ";3", 3);
        faults(RATE, "1?" + "(".repeat(11), 12);
        faults(RATE, "1<" + "(".repeat(11), 12);
        faults(RATE, "1+" + "(".repeat(11), 12);
        faults(RATE, "1*" + "(".repeat(11), 12);
        faults(RATE, "1;" + "(".repeat(11), 12);
    }

    private static void intsThatWrap() {
        S.terms("Ints that wrap");
        is("46341*46341", 46341 * 46341);
        is("999999*999999", 999999 * 999999);
        is("65536*65536", 0);
        is("65536*32768", LEAST);
        is("65536*32768-1", Integer.MAX_VALUE);
        is("65536*32767+65535", Integer.MAX_VALUE);
        is("65536*32767+65535+1", LEAST);
        is("999999*2147+999999*2", 999999 * 2149);
        given("65536*32768-1", 1000000);
        given("65536*32768", 0);
    }

    private static void towardsZero() {
        S.terms("/ towards 0");
        is("7/2", 3);
        is("(0-7)/2", -3);
        is("7/(0-2)", -3);
        is("(0-7)/(0-2)", 3);
        is("1/2", 0);
        is("(0-1)/2", 0);
        is(LEAST_TEXT + "/(0-1)", LEAST);
        is(LEAST_TEXT + "/1", LEAST);
    }

    private static void signOfTheLeft() {
        S.terms("% with the sign of the left side");
        is("7%4", 3);
        is("(0-7)%4", -3);
        is("7%(0-4)", 3);
        is("(0-7)%(0-4)", -3);
        is("8%4", 0);
        is("(0-8)%4", 0);
        is(LEAST_TEXT + "%(0-1)", 0);
        is(LEAST_TEXT + "%3", LEAST % 3);
    }

    private static void byZero() {
        S.terms("by 0 both give 0.");
        is("7/0", 0);
        is("7%0", 0);
        is("0/0", 0);
        is("0%0", 0);
        is("(0-7)/0", 0);
        is("(0-7)%0", 0);
        is("7/0+1", 1);
        is("7/(f-f)*9", 0);
        is(LEAST_TEXT + "/0", 0);
        given("0?7/0;5", 5);
    }

    private static void namesOfRate() {
        S.terms("f the FRONT in that STREET, g the other FRONT (0 without), v VALUE, s the STREET, c 1 of a corner, y YEAR: the day / 365.");
        PavingTrust x = new PavingTrust();
        for (int i = 0; i < 8; i++) {
            x.street(1, 1, 1);
        }
        x.house(799, 601, 999);
        x.house(1, -1, 0);
        int[][] due = {{99, 1}, {1, 99}, {999, 999}, {7, 6}, {1, 1}, {0, 0}};
        int[] alone = {1, 0, 0, 0, 0, 0};
        for (int i = 0; i < 6; i++) {
            String name = "fgvscy".substring(i, i + 1);
            Tape.act(x, RATE, 0, name);
            S.due(name + " in the first street", x.rates(7, 0), due[i][0]);
            S.due(name + " in the second street", x.rates(6, 0), due[i][1]);
            S.due(name + " without a corner", x.rate(1, 0, 0), alone[i]);
        }
        S.due("the last day of year 0", x.rate(1, 364, 0), 0);
        S.due("the first day of year 1", x.rate(1, 365, 0), 1);
        S.due("the last day of year 1", x.rate(1, 729, 0), 1);
        S.due("the last day of year 26", x.rate(1, 27 * 365 - 1, 0), 26);
        S.due("the last day", x.rate(1, 9999, 0), 27);
    }

    private static void namesOfPenalty() {
        S.terms("Of PENALTY: d days open (on that day), l days beyond its LEAVE, w who (the company), s the STREET, n how many of that company are open now.");
        PavingTrust x = new PavingTrust();
        for (int i = 0; i < 8; i++) {
            x.street(16, 9, 1);
        }
        x.open(3, 7, 248, 4);
        x.open(0, 0, 0, 99);
        x.open(3, 0, 1, 99);
        x.days(6);
        int[][] due = {{6, 2, 3, 7, 2}, {6, 0, 0, 0, 1}};
        for (int i = 0; i < 5; i++) {
            String name = "dlwsn".substring(i, i + 1);
            Tape.act(x, PENALTY, 0, name);
            S.due(name + " of the first", x.penalty(0, 6, 6), due[0][i]);
            S.due(name + " of the second", x.penalty(1, 6, 6), due[1][i]);
        }
        x.back(2);
        S.due("one of them now", x.penalty(0, 6, 6), 1);
        S.due("now, also for a day on which both were open", x.penalty(0, 3, 6), 1);
        x.back(0);
        S.due("none of them now", x.penalty(0, 6, 6), 0);
        S.due("of that company alone", x.penalty(1, 6, 6), 1);
    }

    private static void namesOfKinds() {
        S.terms("NAMES (single letters)");
        S.terms("What is not of a KIND is no NAME in it.");
        for (char c = 0; c < 256; c++) {
            boolean isDigit = c >= '0' && c <= '9';
            String text = "" + c;
            for (int kind = 0; kind <= 1; kind++) {
                String names = kind == RATE ? "fgvscy" : "dlwsn";
                if (isDigit || names.indexOf(c) >= 0) {
                    passes(kind, text);
                    passes(kind, "1+" + text);
                } else {
                    faults(kind, text, c == '(' ? 1 : 0);
                    faults(kind, "1+" + text, c == '(' ? 3 : 2);
                }
            }
        }
    }

    private static void firstByte() {
        S.terms("FAULT: the place (from 0) of the first byte with which no TEXT goes on");
        faults(RATE, "?????", 0);
        faults(RATE, "1?????", 2);
        faults(RATE, "1" + (char) 0, 1);
        faults(RATE, "1" + (char) 255, 1);
        faults(RATE, "1" + (char) 128, 1);
        faults(RATE, "1+2*3/4%5-6<7?8;x9", 16);
        faults(RATE, "1;".repeat(79) + "1x", 159);
        faults(RATE, "d;1234567", 0);
        faults(RATE, "1234567;d", 6);
        for (char c = 0; c < 256; c++) {
            boolean goesOn = "+-*/%<=>;?0123456789".indexOf(c) >= 0;
            boolean isWhole = c == ';' || c >= '0' && c <= '9';
            String text = "1" + c;
            if (goesOn && isWhole) {
                passes(RATE, text);
            } else {
                faults(RATE, text, goesOn ? 2 : 1);
            }
            boolean inside = "+-*/%<=>)0123456789".indexOf(c) >= 0;
            if (c == ')') {
                passes(RATE, "(" + text);
            } else {
                faults(RATE, "(" + text, inside ? 3 : 2);
            }
        }
    }

    private static void endsTooEarly() {
        S.terms("the length, if it ends too early.");
        String whole = "(f+1)*(g<2)?v/3%4-5>6;s";
        for (int length = 0; length <= whole.length(); length++) {
            String text = whole.substring(0, length);
            char last = length == 0 ? '(' : text.charAt(length - 1);
            boolean isOpen = text.lastIndexOf('(') > text.lastIndexOf(')');
            boolean ends = !isOpen && "(+*<?/%->".indexOf(last) < 0;
            if (ends) {
                passes(RATE, text);
            } else {
                faults(RATE, text, length);
            }
        }
        faults(RATE, "1+".repeat(80), 160);
        faults(RATE, "1;".repeat(79) + "(1", 160);
    }
}
