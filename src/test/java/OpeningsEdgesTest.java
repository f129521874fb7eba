/** The sentences on openings that name a boundary: promises 31 to 35. */
public final class OpeningsEdgesTest {
    private static final Sentences S = new Sentences();
    private static final int BAD = PavingTrust.BAD, NOT = PavingTrust.NOT, FULL = PavingTrust.FULL, VOID = PavingTrust.VOID;

    public static void main(String[] args) {
        twoHundred();
        companies();
        leave();
        penaltyWithin();
        penaltyAhead();
        penaltyWithoutAct();
        asOfThatDay();
        withinLeave();
        actOfThatDay();
        openTwice();
        sinkToTheOpenOne();
        sinkToTheLastPutBack();
        squares();
        openRefused();
        backAnswers();
        backRefused();
        penaltyDays();
        penaltyRefused();
        sinkRefused();
        openingTold();
        openingRefused();
        S.end(31, 35);
    }

    private static PavingTrust with(int rows, int columns) {
        PavingTrust x = new PavingTrust();
        x.street(rows, columns, 1);
        return x;
    }

    private static void twoHundred() {
        S.terms("OPENINGS 0 .. 199, as they came");
        PavingTrust x = with(16, 9);
        x.street(16, 9, 1);
        for (int i = 0; i < 200; i++) {
            S.due("not opened yet", x.opening(i, 0), NOT);
            S.due("open", x.open(i % 4, i / 100, 16 * (i % 100 / 9) + i % 9, 1 + i % 99), i);
        }
        S.due("one more", x.open(0, 1, 248, 1), FULL);
        S.due("opening 200", x.opening(200, 0), NOT);
        S.due("openings", x.count(3), 200);
        S.due("all open", x.count(4), 200);
        S.due("the last one as it came", x.opening(199, 4), 2);
        S.due("the first one as it came", x.opening(0, 4), 1);
        x.days(1);
        S.due("the last one is put back", x.back(199), 1);
        S.due("no room by that", x.open(0, 1, 248, 1), FULL);
        S.due("open ones", x.count(4), 199);
        S.due("openings", x.count(3), 200);
    }

    private static void companies() {
        S.terms("a company (0 .. 3) opens a SQUARE TODAY");
        PavingTrust x = with(1, 4);
        for (int c : Sentences.outside(0, 3)) {
            S.due("company " + c, x.open(c, 0, 0, 1), BAD);
        }
        S.due("none opened", x.count(3), 0);
        for (int c = 0; c <= 3; c++) {
            S.due("company " + c, x.open(c, 0, c, 1), c);
            S.due("its company", x.opening(c, 0), c);
            S.due("today", x.opening(c, 3), x.count(5));
            x.days(100);
        }
    }

    private static void leave() {
        S.terms("with LEAVE for some days (1 .. 99)");
        PavingTrust x = with(1, 2);
        for (int days : Sentences.outside(1, 99)) {
            S.due("leave for " + days, x.open(0, 0, 0, days), BAD);
        }
        S.due("none opened", x.count(3), 0);
        S.due("leave for 1", x.open(0, 0, 0, 1), 0);
        S.due("leave for 99", x.open(0, 0, 1, 99), 1);
        S.due("its leave", x.opening(0, 4), 1);
        S.due("its leave", x.opening(1, 4), 99);
    }

    private static void penaltyWithin() {
        S.terms("what the ACT in force on that day gives, 0 at least and 1000000 at most");
        String[] text = {"0", "0-1", "999999", "500000*2", "500000*2+1", "32768*65536", "32768*65536-1", "0?5"};
        int[] due = {0, 0, 999999, 1000000, 1000000, 0, 1000000, 0};
        PavingTrust x = with(1, 1);
        x.open(0, 0, 0, 1);
        for (int i = 0; i < text.length; i++) {
            S.due("act", Tape.act(x, 1, 0, text[i]), i);
            S.due(text[i], x.penalty(0, 0, 0), due[i]);
        }
    }

    private static void penaltyAhead() {
        S.terms("(0 ahead of the day of OPENING, and without an ACT;");
        PavingTrust x = with(1, 1);
        Tape.act(x, 1, 0, "7+d");
        x.days(5);
        x.open(0, 0, 0, 1);
        S.due("day 0", x.penalty(0, 0, 9999), 0);
        S.due("the day ahead", x.penalty(0, 4, 9999), 0);
        S.due("the day of opening", x.penalty(0, 5, 9999), 7);
        x.days(1);
        S.due("the next day", x.penalty(0, 6, 9999), 8);
    }

    private static void penaltyWithoutAct() {
        S.terms("and without an ACT;");
        PavingTrust x = with(1, 1);
        x.open(0, 0, 0, 1);
        x.days(5);
        S.due("none", x.penalty(0, 5, 9999), 0);
        Tape.act(x, 0, 0, "7");
        S.due("only one of the other kind", x.penalty(0, 5, 9999), 0);
        Tape.act(x, 1, 5, "7");
        S.due("none in force on that day", x.penalty(0, 4, 9999), 0);
        S.due("none known", x.penalty(0, 5, 4), 0);
        S.due("one", x.penalty(0, 5, 5), 7);
    }

    private static void asOfThatDay() {
        S.terms("d and l as of that day, or of that on which it was PUT BACK, if earlier;");
        PavingTrust x = with(1, 2);
        Tape.act(x, 1, 0, "d*100+l");
        x.open(0, 0, 0, 2);
        x.open(0, 0, 1, 2);
        x.days(5);
        x.back(0);
        x.back(1);
        x.days(4);
        S.due("the day of opening", x.penalty(0, 0, 0), 0);
        S.due("the day ahead of its putting back", x.penalty(0, 4, 0), 402);
        S.due("the day of its putting back", x.penalty(0, 5, 0), 503);
        S.due("the day behind", x.penalty(0, 6, 0), 503);
        S.due("today", x.penalty(0, 9, 0), 503);
        x.open(0, 0, 0, 2);
        x.back(2);
        x.days(4);
        S.due("put back on the day of opening", x.penalty(2, 13, 0), 0);
        x.open(0, 0, 0, 2);
        S.due("another one there does not change it", x.penalty(0, 13, 0), 503);
        x.days(3);
        S.due("still open", x.penalty(3, 16, 0), 301);
    }

    private static void withinLeave() {
        S.terms("l is 0 within LEAVE)");
        PavingTrust x = with(1, 2);
        Tape.act(x, 1, 0, "l");
        x.open(0, 0, 0, 1);
        x.open(0, 0, 1, 99);
        x.days(100);
        int[] of1 = {0, 0, 1, 2, 99};
        int[] days1 = {0, 1, 2, 3, 100};
        for (int i = 0; i < 5; i++) {
            S.due("leave of 1, day " + days1[i], x.penalty(0, days1[i], 0), of1[i]);
        }
        S.due("leave of 99, day 98", x.penalty(1, 98, 0), 0);
        S.due("leave of 99, day 99", x.penalty(1, 99, 0), 0);
        S.due("leave of 99, day 100", x.penalty(1, 100, 0), 1);
        Tape.act(x, 1, 0, "l+5");
        S.due("not less than 0, day 0", x.penalty(0, 0, 9999), 5);
        S.due("not less than 0, day 98", x.penalty(1, 98, 9999), 5);
        S.due("not less than 0, day 99", x.penalty(1, 99, 9999), 5);
    }

    private static void actOfThatDay() {
        S.terms("PENALTY on a day: what the ACT in force on that day gives");
        PavingTrust x = with(1, 1);
        x.open(0, 0, 0, 1);
        Tape.act(x, 1, 0, "1");
        Tape.act(x, 1, 3, "2");
        x.days(5);
        Tape.act(x, 1, 2, "3");
        S.due("day 1", x.penalty(0, 1, 5), 1);
        S.due("day 2", x.penalty(0, 2, 5), 3);
        S.due("day 2 as known ahead of the last one", x.penalty(0, 2, 4), 1);
        S.due("day 3 as known ahead of the last one", x.penalty(0, 3, 4), 2);
        x.back(0);
        x.days(5);
        Tape.act(x, 1, 9, "4");
        S.due("also one of a day behind its putting back", x.penalty(0, 10, 10), 4);
        S.due("the day ahead of that", x.penalty(0, 8, 10), 3);
    }

    private static void openTwice() {
        S.terms("A SQUARE that is open can't be opened.");
        PavingTrust x = with(2, 2);
        x.street(2, 2, 1);
        S.due("open", x.open(0, 0, 17, 1), 0);
        for (int company = 0; company <= 3; company++) {
            S.due("by company " + company, x.open(company, 0, 17, 1), NOT);
        }
        S.due("the same square of another street", x.open(0, 1, 17, 1), 1);
        S.due("the square beside it", x.open(0, 0, 16, 1), 2);
        S.due("another row's", x.open(0, 0, 1, 1), 3);
        x.days(100);
        S.due("also beyond its leave", x.open(0, 0, 17, 1), NOT);
        x.back(0);
        S.due("once put back", x.open(0, 0, 17, 1), 4);
        S.due("open again", x.open(0, 0, 17, 1), NOT);
    }

    private static void sinkToTheOpenOne() {
        S.terms("A SINK told of a SQUARE leads to the OPENING there that is open now");
        PavingTrust x = with(2, 2);
        x.open(0, 0, 0, 1);
        S.due("open now", x.sink(0, 0), 0);
        x.back(0);
        x.open(1, 0, 0, 1);
        S.due("open now, another one put back the same day", x.sink(0, 0), 1);
        x.days(100);
        S.due("also beyond its leave", x.sink(0, 0), 1);
        x.open(1, 0, 1, 1);
        S.due("there", x.sink(0, 0), 1);
        S.due("the square beside it", x.sink(0, 1), 2);
    }

    private static void sinkToTheLastPutBack() {
        S.terms("else to that PUT BACK last (of one day the one of the greater number).");
        PavingTrust x = with(1, 2);
        for (int i = 0; i < 3; i++) {
            x.open(i, 0, 0, 1);
            x.open(i, 0, 1, 1);
            x.back(2 * i);
            S.due("of one day the greater number", x.sink(0, 0), 2 * i);
            x.back(2 * i + 1);
        }
        S.due("of that square alone", x.sink(0, 0), 4);
        x.open(3, 0, 0, 1);
        x.days(1);
        x.back(6);
        S.due("of the last day", x.sink(0, 0), 6);
        S.due("of one day the greater number", x.sink(0, 1), 5);
    }

    private static void squares() {
        S.promise(31, "at: 16 times the ROW, and the column.");
        PavingTrust x = with(16, 9);
        S.due("the first", x.open(0, 0, 0, 1), 0);
        S.due("the end of row 0", x.open(0, 0, 8, 1), 1);
        S.due("beyond row 0", x.open(0, 0, 9, 1), BAD);
        S.due("ahead of row 1", x.open(0, 0, 15, 1), BAD);
        S.due("the beginning of row 1", x.open(0, 0, 16, 1), 2);
        S.due("the last", x.open(0, 0, 248, 1), 3);
        S.due("beyond the last", x.open(0, 0, 249, 1), BAD);
        S.due("row 16", x.open(0, 0, 256, 1), BAD);
        for (int at : Sentences.outside(0, 248)) {
            S.due("at " + at, x.open(0, 0, at, 1), BAD);
        }
        S.due("below 0", x.open(0, 0, -16, 1), BAD);
        S.due("below 0", x.open(0, 0, -15, 1), BAD);
        x.street(2, 3, 1);
        S.due("row 2 of 2", x.open(0, 1, 32, 1), BAD);
        S.due("column 3 of 3", x.open(0, 1, 3, 1), BAD);
        S.due("the last of 2 and 3", x.open(0, 1, 18, 1), 4);
    }

    private static void openRefused() {
        S.promise(31, "BAD; NOT: it is open; FULL.");
        PavingTrust x = with(1, 3);
        for (int n : Sentences.outside(0, 0)) {
            S.due("street " + n, x.open(0, n, 0, 1), BAD);
        }
        S.due("open", x.open(0, 0, 0, 1), 0);
        S.due("BAD is ahead of NOT", x.open(4, 0, 0, 1), BAD);
        S.due("BAD is ahead of NOT", x.open(0, 0, 0, 0), BAD);
        for (int i = 1; i < 200; i++) {
            x.open(0, 0, 1, 1);
            x.back(i);
        }
        S.due("full", x.open(0, 0, 1, 1), FULL);
        S.due("NOT is ahead of FULL", x.open(0, 0, 0, 1), NOT);
        S.due("BAD is ahead of FULL", x.open(0, 0, 3, 1), BAD);
        S.due("BAD is ahead of both", x.open(0, 0, 0, 100), BAD);
        S.due("openings", x.count(3), 200);
        S.due("open ones", x.count(4), 1);
    }

    private static void backAnswers() {
        S.promise(32, "It is PUT BACK: days that it was open.");
        PavingTrust x = with(1, 3);
        x.open(0, 0, 0, 1);
        S.due("the same day", x.back(0), 0);
        x.open(0, 0, 0, 1);
        x.open(0, 0, 1, 1);
        x.days(1);
        S.due("one day", x.back(1), 1);
        for (int i = 0; i < 99; i++) {
            x.days(100);
        }
        x.days(98);
        S.due("all days", x.back(2), 9999);
        x.open(0, 0, 2, 1);
        S.due("on the last day", x.back(3), 0);
    }

    private static void backRefused() {
        S.promise(32, "BAD, NOT: it was.");
        PavingTrust x = with(1, 1);
        S.due("none yet", x.back(0), BAD);
        x.open(0, 0, 0, 1);
        for (int n : Sentences.outside(0, 0)) {
            S.due("opening " + n, x.back(n), BAD);
        }
        S.due("still open", x.count(4), 1);
        x.days(3);
        S.due("back", x.back(0), 3);
        x.days(3);
        S.due("it was", x.back(0), NOT);
        S.due("on that day", x.opening(0, 5), 3);
    }

    private static void penaltyDays() {
        S.promise(33, "PENALTY of an OPENING on a day (0 .. TODAY), AS KNOWN on day k.");
        PavingTrust x = with(1, 1);
        Tape.act(x, 1, 0, "d+1");
        x.open(0, 0, 0, 1);
        for (int today = 0; today <= 3; today++) {
            for (int day : Sentences.outside(0, today)) {
                S.due("day " + day, x.penalty(0, day, 0), VOID);
            }
            S.due("today", x.penalty(0, today, 0), today + 1);
            S.due("day 0", x.penalty(0, 0, 0), 1);
            x.days(1);
        }
        S.due("known on the last day", x.penalty(0, 4, 9999), 5);
    }

    private static void penaltyRefused() {
        S.promise(33, "VOID: BAD.");
        PavingTrust x = with(1, 1);
        S.due("none yet", x.penalty(0, 0, 0), VOID);
        Tape.act(x, 1, 0, "7");
        x.open(0, 0, 0, 1);
        for (int n : Sentences.outside(0, 0)) {
            S.due("opening " + n, x.penalty(n, 0, 0), VOID);
        }
        for (int k : Sentences.outside(0, 9999)) {
            S.due("k " + k, x.penalty(0, 0, k), VOID);
        }
        S.due("k 0", x.penalty(0, 0, 0), 7);
        S.due("k 9999", x.penalty(0, 0, 9999), 7);
        x.days(2);
        x.back(0);
        x.open(0, 0, 0, 1);
        S.due("also ahead of its day a k that is none", x.penalty(1, 0, 10000), VOID);
        S.due("ahead of its day", x.penalty(1, 0, 9999), 0);
    }

    private static void sinkRefused() {
        S.promise(34, "A SINK: the OPENING. BAD, NOT.");
        PavingTrust x = with(2, 3);
        for (int n : Sentences.outside(0, 0)) {
            S.due("street " + n, x.sink(n, 0), BAD);
        }
        for (int at : Sentences.outside(0, 18)) {
            S.due("at " + at, x.sink(0, at), BAD);
        }
        for (int at = 0; at < 32; at++) {
            S.due("at " + at, x.sink(0, at), at % 16 < 3 ? NOT : BAD);
        }
        x.open(0, 0, 18, 1);
        S.due("opened there", x.sink(0, 18), 0);
        S.due("never opened there", x.sink(0, 17), NOT);
    }

    private static void openingTold() {
        S.promise(35, "Of an OPENING: 0 company, 1 STREET, 2 at, 3 the day, 4 LEAVE, 5 the day when PUT BACK (-1).");
        PavingTrust x = with(1, 1);
        x.street(16, 9, 1);
        x.open(0, 0, 0, 1);
        x.days(7);
        x.open(3, 1, 248, 99);
        int[][] due = {{0, 0, 0, 0, 1, -1}, {3, 1, 248, 7, 99, -1}};
        for (int i = 0; i < 2; i++) {
            for (int what = 0; what <= 5; what++) {
                S.due("opening(" + i + ", " + what + ")", x.opening(i, what), due[i][what]);
            }
        }
        x.back(1);
        S.due("put back the same day", x.opening(1, 5), 7);
        S.due("the other one is not", x.opening(0, 5), -1);
        x.days(1);
        x.back(0);
        S.due("put back", x.opening(0, 5), 8);
        S.due("the other one as it was", x.opening(1, 5), 7);
    }

    private static void openingRefused() {
        S.promise(35, "-2 is BAD here.");
        PavingTrust x = with(1, 1);
        S.due("none yet", x.opening(0, 0), -2);
        x.open(0, 0, 0, 1);
        for (int n : Sentences.outside(0, 0)) {
            S.due("opening " + n, x.opening(n, 0), -2);
            S.due("opening " + n, x.opening(n, 5), -2);
        }
        for (int what : Sentences.outside(0, 5)) {
            S.due("what " + what, x.opening(0, what), -2);
        }
    }
}
