/** The sentences on houses, days, the tape and acts that name a boundary: promises 23 to 30. */
public final class ActsEdgesTest {
    private static final Sentences S = new Sentences();
    private static final int BAD = PavingTrust.BAD, NOT = PavingTrust.NOT, FULL = PavingTrust.FULL, VOID = PavingTrust.VOID;

    public static void main(String[] args) {
        sixtyHouses();
        fronts();
        corners();
        values();
        daysCount();
        kinds();
        passedOnOrAhead();
        inForceFrom();
        passedLast();
        rateOnADay();
        housePlaces();
        houseRefused();
        daysGoBy();
        feedBytes();
        feedFull();
        actFrom();
        actNumbers();
        actEmptiesTheTape();
        actRefused();
        inForceRefused();
        rateRefused();
        ratesOfAStreet();
        ratesRefused();
        clauseGives();
        clauseRefused();
        S.end(23, 30);
    }

    private static PavingTrust with(int streets) {
        PavingTrust x = new PavingTrust();
        for (int i = 0; i < streets; i++) {
            x.street(1, 1, 1);
        }
        return x;
    }

    private static void pass(PavingTrust x, int days) {
        for (int left = days; left > 0; left -= 100) {
            x.days(Math.min(left, 100));
        }
    }

    private static void sixtyHouses() {
        S.terms("HOUSES 0 .. 59, as they were made");
        PavingTrust x = with(1);
        Tape.act(x, 0, 0, "f*1000+v");
        for (int i = 0; i < 60; i++) {
            S.due("not made yet", x.rate(i, 0, 0), VOID);
            S.due("house", x.house(1 + i, -1, 900 + i), i);
        }
        S.due("one more", x.house(1, -1, 1), FULL);
        S.due("house 60", x.rate(60, 0, 0), VOID);
        S.due("house -1", x.rate(-1, 0, 0), VOID);
        for (int i = 0; i < 60; i++) {
            S.due("as they were made", x.rate(i, 0, 0), 1000 * (1 + i) + 900 + i);
        }
        S.due("houses", x.count(1), 60);
    }

    private static void fronts() {
        S.terms("a STREET, a FRONT (1 .. 99)");
        PavingTrust x = with(8);
        Tape.act(x, 0, 0, "s*100+f");
        S.due("front 0", x.house(0, -1, 1), BAD);
        S.due("front 0 of street 7", x.house(700, -1, 1), BAD);
        S.due("front 100 is front 0 of the next street", x.house(800, -1, 1), BAD);
        S.due("street 8", x.house(801, -1, 1), BAD);
        S.due("below 0", x.house(-1, -1, 1), BAD);
        S.due("below 0", x.house(-99, -1, 1), BAD);
        S.due("none made", x.count(1), 0);
        S.due("front 1", x.house(1, -1, 1), 0);
        S.due("front 99", x.house(99, -1, 1), 1);
        S.due("front 1 of street 7", x.house(701, -1, 1), 2);
        S.due("front 99 of street 7", x.house(799, -1, 1), 3);
        int[] due = {1, 99, 701, 799};
        for (int i = 0; i < 4; i++) {
            S.due("house " + i, x.rate(i, 0, 0), due[i]);
        }
    }

    private static void corners() {
        S.terms("a second STREET with a FRONT (a corner), or none");
        PavingTrust x = with(8);
        Tape.act(x, 0, 0, "c*100000+s*1000+f");
        S.due("front 0", x.house(1, 100, 1), BAD);
        S.due("street 8", x.house(1, 801, 1), BAD);
        S.due("less than none", x.house(1, -2, 1), BAD);
        S.due("less than none", x.house(101, -100, 1), BAD);
        S.due("none made", x.count(1), 0);
        S.due("none", x.house(101, -1, 1), 0);
        S.due("front 1 of street 0", x.house(101, 1, 1), 1);
        S.due("front 99 of street 7", x.house(101, 799, 1), 2);
        S.due("one street", x.rate(0, 0, 0), 1001);
        S.due("a corner", x.rate(1, 0, 0), 101001 + 100001);
        S.due("a corner", x.rate(2, 0, 0), 101001 + 107099);
    }

    private static void values() {
        S.terms("a VALUE (0 .. 999)");
        PavingTrust x = with(1);
        Tape.act(x, 0, 0, "v");
        for (int v : Sentences.outside(0, 999)) {
            S.due("value " + v, x.house(1, -1, v), BAD);
        }
        S.due("none made", x.count(1), 0);
        S.due("value 0", x.house(1, -1, 0), 0);
        S.due("value 999", x.house(1, -1, 999), 1);
        S.due("value 0", x.rate(0, 0, 0), 0);
        S.due("value 999", x.rate(1, 0, 0), 999);
    }

    private static void daysCount() {
        S.terms("DAYS: TODAY is a count, 0 at first, at most 9999.");
        PavingTrust x = new PavingTrust();
        S.due("at first", x.count(5), 0);
        pass(x, 9900);
        S.due("one too many", x.days(100), BAD);
        S.due("9900", x.count(5), 9900);
        S.due("9999", x.days(99), 9999);
        S.due("no more", x.days(1), BAD);
        S.due("9999", x.count(5), 9999);
    }

    private static void kinds() {
        S.terms("ACTS are TEXTS of two KINDS: 0 RATE (of a HOUSE and a STREET), 1 PENALTY (of an OPENING)");
        PavingTrust x = new PavingTrust();
        Tape.feed(x, "s");
        for (int kind : Sentences.outside(0, 1)) {
            S.due("act of kind " + kind, x.act(kind, 0), BAD);
            S.due("inForce of kind " + kind, x.inForce(kind, 0, 0), BAD);
        }
        S.due("kind 1", x.act(1, 0), 0);
        S.due("none of kind 0", x.inForce(0, 0, 0), NOT);
        S.due("kind 0", Tape.act(x, 0, 0, "s"), 1);
        S.due("of kind 0", x.inForce(0, 0, 0), 1);
        S.due("of kind 1", x.inForce(1, 0, 0), 0);
    }

    private static void passedOnOrAhead() {
        S.terms("those passed on day k or ahead");
        PavingTrust x = new PavingTrust();
        pass(x, 50);
        Tape.act(x, 0, 0, "1");
        S.due("the day ahead", x.inForce(0, 9999, 49), NOT);
        S.due("day 0", x.inForce(0, 9999, 0), NOT);
        S.due("on the day", x.inForce(0, 9999, 50), 0);
        S.due("later", x.inForce(0, 9999, 51), 0);
        S.due("on the last day", x.inForce(0, 9999, 9999), 0);
    }

    private static void inForceFrom() {
        S.terms("in force from that day or an earlier one");
        PavingTrust x = new PavingTrust();
        Tape.act(x, 0, 50, "1");
        S.due("the day ahead", x.inForce(0, 49, 9999), NOT);
        S.due("day 0", x.inForce(0, 0, 9999), NOT);
        S.due("on the day", x.inForce(0, 50, 0), 0);
        S.due("later", x.inForce(0, 51, 0), 0);
        S.due("on the last day", x.inForce(0, 9999, 0), 0);
        Tape.act(x, 0, 9999, "1");
        S.due("not yet", x.inForce(0, 9998, 0), 0);
        S.due("from the last day on", x.inForce(0, 9999, 0), 1);
        Tape.act(x, 0, 0, "1");
        S.due("from day 0 on", x.inForce(0, 0, 0), 2);
    }

    private static void passedLast() {
        S.terms("the one passed last.");
        PavingTrust x = new PavingTrust();
        Tape.act(x, 0, 40, "1");
        Tape.act(x, 0, 30, "1");
        Tape.act(x, 1, 0, "1");
        S.due("of one day the later one, though in force from an earlier day", x.inForce(0, 40, 0), 1);
        pass(x, 1);
        Tape.act(x, 0, 20, "1");
        S.due("of the later day", x.inForce(0, 40, 1), 3);
        S.due("not known on the day ahead", x.inForce(0, 40, 0), 1);
        Tape.act(x, 0, 41, "1");
        S.due("not the last one, which is not in force", x.inForce(0, 40, 1), 3);
        S.due("the last one", x.inForce(0, 41, 1), 4);
        S.due("of its kind", x.inForce(1, 41, 1), 2);
    }

    private static void rateOnADay() {
        S.terms("what the ACT in force gives for each of its STREETS, each 0 at least and 1000000 at most, together.");
        PavingTrust x = with(2);
        x.house(1, 102, 5);
        Tape.act(x, 0, 0, "s?500000*2;999999");
        S.due("999999 and 1000000", x.rate(0, 0, 0), 1999999);
        Tape.act(x, 0, 0, "500000*2+1");
        S.due("1000001 of each", x.rate(0, 0, 0), 2000000);
        Tape.act(x, 0, 0, "s?0-1;7");
        S.due("7 and -1", x.rate(0, 0, 0), 7);
        Tape.act(x, 0, 0, "s?0-999999;999999*2");
        S.due("each for itself", x.rate(0, 0, 0), 1000000);
        Tape.act(x, 0, 0, "s?32768*65536;32768*65536-1");
        S.due("the least int and the greatest", x.rate(0, 0, 0), 1000000);
        Tape.act(x, 0, 0, "0");
        S.due("0", x.rate(0, 0, 0), 0);
    }

    private static void housePlaces() {
        S.promise(23, "places: 100 times the STREET, and the FRONT; corner: likewise of the second one, or -1.");
        PavingTrust x = with(3);
        Tape.act(x, 0, 0, "s*10000+f*100+g");
        S.due("no corner", x.house(299, -1, 1), 0);
        S.due("a corner", x.house(201, 199, 1), 1);
        S.due("front 0 of the second one is no house without a corner", x.house(201, 0, 1), BAD);
        S.due("no corner", x.rate(0, 0, 0), 29900);
        S.due("its first street", x.rates(2, 0), 29900 + 20199);
        S.due("its second street", x.rates(1, 0), 19901);
    }

    private static void houseRefused() {
        S.promise(23, "BAD (also twice the same STREET), FULL.");
        PavingTrust x = with(2);
        S.due("twice street 0", x.house(1, 2, 1), BAD);
        S.due("twice street 0, the same front", x.house(1, 1, 1), BAD);
        S.due("twice street 1", x.house(199, 101, 1), BAD);
        twoStreets();
        for (int n : Sentences.outside(1, 199)) {
            S.due("places " + n, x.house(n, -1, 1), BAD);
            S.due("corner " + n, x.house(101, n, 1), n == -1 ? 0 : BAD);
        }
        S.due("only the one without a corner", x.count(1), 0);
        for (int i = 0; i < 60; i++) {
            S.due("house", x.house(1, 101, 1), i);
        }
        S.due("full", x.house(1, 101, 1), FULL);
        S.due("BAD is named first", x.house(1, 2, 1), BAD);
        S.due("BAD is named first", x.house(200, -1, 1), BAD);
        S.due("BAD is named first", x.house(1, 100, 1), BAD);
        S.due("BAD is named first", x.house(1, -1, 1000), BAD);
    }

    private static void twoStreets() {
        int[] ends = {1, 99};
        for (int pair = 0; pair < 64; pair++) {
            PavingTrust x = with(8);
            for (int i = 0; i < 4; i++) {
                int places = 100 * (pair / 8) + ends[i / 2];
                int corner = 100 * (pair % 8) + ends[i % 2];
                S.due("house(" + places + ", " + corner + ", 1)", x.house(places, corner, 1), pair / 8 == pair % 8 ? BAD : i);
            }
        }
    }

    private static void daysGoBy() {
        S.promise(24, "n (1 .. 100) days go by: TODAY. BAD (also beyond 9999).");
        PavingTrust x = new PavingTrust();
        for (int n : Sentences.outside(1, 100)) {
            S.due(n + " days", x.days(n), BAD);
        }
        S.due("still the first day", x.count(5), 0);
        S.due("one", x.days(1), 1);
        S.due("a hundred", x.days(100), 101);
        pass(x, 9799);
        S.due("to 10000", x.days(100), BAD);
        S.due("to 9999", x.days(99), 9999);
        S.due("to 10000", x.days(1), BAD);
        S.due("9999", x.count(5), 9999);
    }

    private static void feedBytes() {
        S.promise(25, "n (1 .. 4) bytes come to THE TAPE, the lowest of v first: how many it has.");
        PavingTrust x = with(1);
        x.house(1, -1, 5);
        int four = '1' | '2' << 8 | '3' << 16 | '4' << 24;
        for (int n : Sentences.outside(1, 4)) {
            S.due(n + " bytes", x.feed(n, four), BAD);
        }
        S.due("none came", x.count(7), 0);
        int[] due = {1, 12, 123, 1234};
        for (int n = 1; n <= 4; n++) {
            S.due(n + " bytes", x.feed(n, four), n);
            S.due("bytes", x.count(7), n);
            S.due("act", x.act(0, 0), n - 1);
            S.due("the lowest first, no more than n", x.rate(0, 0, 0), due[n - 1]);
        }
        S.due("a v below 0", x.feed(4, 0xff303030), 4);
        S.due("its highest byte", x.act(0, 0), -103);
        S.due("v of 0", x.feed(1, 0), 1);
        S.due("a byte of 0", x.act(0, 0), -100);
    }

    private static void feedFull() {
        S.promise(25, "BAD, FULL.");
        for (int n = 1; n <= 4; n++) {
            PavingTrust x = new PavingTrust();
            for (int i = 0; i < 39; i++) {
                x.feed(4, 0x2b312b31);
            }
            x.feed(4 - n + 1, 0x31313131);
            int has = 161 - n;
            S.due("one byte too many", x.feed(n, 0x31313131), FULL);
            S.due("none of them came", x.count(7), has);
            S.due("BAD is named first", x.feed(5, 0), BAD);
            S.due("BAD is named first", x.feed(0, 0), BAD);
            if (n > 1) {
                S.due("as many as fit", x.feed(n - 1, 0x31313131), 160);
            }
            for (int m = 1; m <= 4; m++) {
                S.due("no more fit", x.feed(m, 0x31313131), FULL);
            }
            S.due("160 bytes", x.count(7), 160);
            S.due("what was refused is not on it", x.act(0, 0), 0);
        }
    }

    private static void actFrom() {
        S.promise(26, "THE TAPE is passed as an ACT of a KIND, TODAY, in force from a day (0 .. 9999) on");
        PavingTrust x = new PavingTrust();
        Tape.feed(x, "1");
        for (int from : Sentences.outside(0, 9999)) {
            S.due("from day " + from, x.act(0, from), BAD);
        }
        S.due("the tape stays", x.count(7), 1);
        S.due("from day 9999", x.act(0, 9999), 0);
        S.due("from day 0", Tape.act(x, 0, 0, "1"), 1);
        pass(x, 9999);
        S.due("passed on the last day, from day 0", Tape.act(x, 0, 0, "1"), 2);
        S.due("not known the day ahead", x.inForce(0, 0, 9998), 1);
        S.due("known on the last day", x.inForce(0, 0, 9999), 2);
    }

    private static void actNumbers() {
        S.promise(26, "its number (0 .. 19, of all KINDS)");
        PavingTrust x = new PavingTrust();
        for (int i = 0; i < 20; i++) {
            S.due("a fault has no number", Tape.act(x, i % 2, 0, "?"), -100);
            S.due("act", Tape.act(x, i % 3 % 2, i, "s"), i);
        }
        S.due("acts", x.count(2), 20);
        S.due("a twenty-first of kind 0", Tape.act(x, 0, 0, "s"), FULL);
        S.due("a twenty-first of kind 1", x.act(1, 0), FULL);
        S.due("acts", x.count(2), 20);
        S.due("the last one", x.inForce(1, 9999, 9999), 19);
        S.due("the last one of the other kind", x.inForce(0, 9999, 9999), 18);
    }

    private static void actEmptiesTheTape() {
        S.promise(26, "-100 less its FAULT; THE TAPE is empty then.");
        PavingTrust x = new PavingTrust();
        Tape.feed(x, "1+");
        S.due("a fault", x.act(0, 0), -102);
        S.due("empties it", x.count(7), 0);
        S.due("an empty tape is a fault at its end", x.act(0, 0), -100);
        S.due("still empty", x.count(7), 0);
        Tape.feed(x, "11");
        S.due("an act", x.act(0, 0), 0);
        S.due("empties it", x.count(7), 0);
        S.due("nothing of the former text is left", Tape.act(x, 0, 0, "("), -101);
        S.due("the greatest fault", Tape.act(x, 0, 0, "1+".repeat(80)), -260);
        S.due("empties it", x.count(7), 0);
        S.due("it can be filled again", Tape.feed(x, "1;".repeat(80)), 160);
        S.due("acts", x.count(2), 1);
    }

    private static void actRefused() {
        S.promise(26, "BAD, FULL.");
        PavingTrust x = new PavingTrust();
        for (int i = 0; i < 20; i++) {
            Tape.act(x, 0, 0, "1");
        }
        Tape.feed(x, "s+1");
        S.due("full", x.act(0, 0), FULL);
        S.due("the tape stays", x.count(7), 3);
        S.due("BAD is named first", x.act(2, 0), BAD);
        S.due("BAD is named first", x.act(-1, 0), BAD);
        S.due("BAD is named first", x.act(0, -1), BAD);
        S.due("BAD is named first", x.act(0, 10000), BAD);
        S.due("the tape stays", x.count(7), 3);
        S.due("it goes on where it was", x.feed(1, '+'), 4);
        S.due("acts", x.count(2), 20);
    }

    private static void inForceRefused() {
        S.promise(27, "The ACT of a KIND in force on a day, AS KNOWN on day k (0 .. 9999 both); NOT: none. BAD.");
        PavingTrust x = new PavingTrust();
        S.due("none", x.inForce(0, 0, 0), NOT);
        S.due("none", x.inForce(1, 9999, 9999), NOT);
        for (int day : Sentences.outside(0, 9999)) {
            S.due("BAD is named first: day " + day, x.inForce(0, day, 0), BAD);
            S.due("BAD is named first: k " + day, x.inForce(0, 0, day), BAD);
        }
        S.due("BAD is named first: kind -1", x.inForce(-1, 0, 0), BAD);
        S.due("BAD is named first: kind 2", x.inForce(2, 0, 0), BAD);
        Tape.act(x, 0, 0, "1");
        S.due("the first day", x.inForce(0, 0, 0), 0);
        S.due("the last day", x.inForce(0, 9999, 9999), 0);
        for (int day : Sentences.outside(0, 9999)) {
            S.due("day " + day, x.inForce(0, day, 0), BAD);
            S.due("k " + day, x.inForce(0, 0, day), BAD);
        }
    }

    private static void rateRefused() {
        S.promise(28, "RATE of a HOUSE on a day, AS KNOWN on day k; 0 without an ACT. VOID: BAD.");
        PavingTrust x = with(1);
        S.due("no house yet", x.rate(0, 0, 0), VOID);
        x.house(3, -1, 5);
        S.due("without an act", x.rate(0, 0, 0), 0);
        S.due("without an act", x.rate(0, 9999, 9999), 0);
        Tape.act(x, 1, 0, "9");
        S.due("only one of the other kind", x.rate(0, 0, 0), 0);
        Tape.act(x, 0, 7, "f");
        S.due("the day ahead", x.rate(0, 6, 0), 0);
        S.due("on the day", x.rate(0, 7, 0), 3);
        S.due("the last day", x.rate(0, 9999, 9999), 3);
        for (int n : Sentences.outside(0, 0)) {
            S.due("house " + n, x.rate(n, 7, 0), VOID);
        }
        for (int day : Sentences.outside(0, 9999)) {
            S.due("day " + day, x.rate(0, day, 0), VOID);
            S.due("k " + day, x.rate(0, 7, day), VOID);
        }
    }

    private static void ratesOfAStreet() {
        S.promise(29, "The RATES of all HOUSES that have a part in a STREET, that part alone, on a day, AS KNOWN on it.");
        PavingTrust x = with(4);
        S.due("no houses", x.rates(0, 0), 0);
        x.house(1, -1, 5);
        x.house(2, 110, 5);
        x.house(120, 4, 5);
        x.house(330, -1, 5);
        S.due("without an act", x.rates(0, 0), 0);
        pass(x, 9);
        Tape.act(x, 0, 5, "f");
        S.due("not known on that day", x.rates(0, 8), 0);
        S.due("that part alone", x.rates(0, 9), 7);
        S.due("that part alone", x.rates(1, 9), 30);
        S.due("a street without houses", x.rates(2, 9), 0);
        S.due("the last street, the last day", x.rates(3, 9999), 30);
        Tape.act(x, 0, 5, "f=1?0-9;f=2?999999*2;f");
        S.due("each 0 at least and 1000000 at most", x.rates(0, 9), 1000004);
        PavingTrust y = with(2);
        for (int i = 0; i < 60; i++) {
            y.house(1, 101, 5);
        }
        Tape.act(y, 0, 0, "999999*2");
        S.due("the most of all houses", y.rates(1, 0), 60000000);
    }

    private static void ratesRefused() {
        S.promise(29, "VOID: BAD.");
        PavingTrust x = with(1);
        x.house(1, -1, 5);
        Tape.act(x, 0, 0, "f");
        for (int n : Sentences.outside(0, 0)) {
            S.due("street " + n, x.rates(n, 0), VOID);
        }
        for (int day : Sentences.outside(0, 9999)) {
            S.due("day " + day, x.rates(0, day), VOID);
        }
        S.due("the first day", x.rates(0, 0), 1);
        S.due("the last day", x.rates(0, 9999), 1);
    }

    private static void clauseGives() {
        S.promise(30, "The place (from 0) of the CLAUSE that gives the RATE of a HOUSE in its first STREET on a day, AS KNOWN on it");
        PavingTrust x = with(2);
        x.house(110, 5, 5);
        pass(x, 2);
        Tape.act(x, 0, 1, "f<6?1;f>9?2;3");
        S.due("in its first street", x.clause(0, 2), 1);
        S.due("not known on that day", x.clause(0, 1), NOT);
        Tape.act(x, 0, 0, "7");
        S.due("the first", x.clause(0, 2), 0);
        Tape.act(x, 0, 0, "0?1;".repeat(39) + "9;");
        S.due("the last of forty", x.clause(0, 2), 39);
        Tape.act(x, 0, 0, "1;".repeat(80));
        S.due("the first of eighty", x.clause(0, 2), 0);
        Tape.act(x, 0, 0, "0?5;1?0;7");
        S.due("it gives, though it gives 0", x.clause(0, 2), 1);
    }

    private static void clauseRefused() {
        S.promise(30, "NOT: none. BAD.");
        PavingTrust x = with(1);
        S.due("no house yet", x.clause(0, 0), BAD);
        x.house(1, -1, 5);
        S.due("without an act", x.clause(0, 0), NOT);
        Tape.act(x, 1, 0, "1");
        S.due("only one of the other kind", x.clause(0, 0), NOT);
        Tape.act(x, 0, 0, "f>1?1;g?1");
        S.due("no clause gives", x.clause(0, 0), NOT);
        for (int n : Sentences.outside(0, 0)) {
            S.due("house " + n, x.clause(n, 0), BAD);
        }
        for (int day : Sentences.outside(0, 9999)) {
            S.due("day " + day, x.clause(0, day), BAD);
        }
        Tape.act(x, 0, 9999, "f");
        S.due("the day ahead of the last", x.clause(0, 9998), NOT);
        S.due("the last day", x.clause(0, 9999), 0);
    }
}
