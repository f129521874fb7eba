/** The sentences on years, wear and plans that name a boundary: promises 16 to 22. */
public final class YearsEdgesTest {
    private static final Sentences S = new Sentences();
    private static final int BAD = PavingTrust.BAD, NOT = PavingTrust.NOT;

    public static void main(String[] args) {
        thirtyYears();
        wheelsWithin();
        wearFromThePaving();
        wearOfNeverPaved();
        meanWithoutRest();
        yearsOfTheMean();
        meanOfNone();
        yearsToCome();
        oneToSixStreets();
        planYears();
        oneYearOrNone();
        planMoney();
        moneyIsEnough();
        costWithin();
        savingWithin();
        savingInThatYear();
        worthOfEachYear();
        leastCosts();
        theFirstOfSeveral();
        yearRefused();
        wheelsOfYears();
        paveAnswers();
        wearRefused();
        costRefused();
        moneyBehind();
        planRefused();
        plannedLatest();
        plannedRefused();
        S.end(16, 22);
    }

    private static PavingTrust with(int streets) {
        PavingTrust x = new PavingTrust();
        for (int i = 0; i < streets; i++) {
            x.street(1, 1, 1);
        }
        return x;
    }

    private static void pass(PavingTrust x, int years) {
        for (int i = 0; i < years; i++) {
            x.year();
        }
    }

    private static void thirtyYears() {
        S.terms("THIS YEAR is a count, 0 at first, at most 30.");
        PavingTrust x = new PavingTrust();
        S.due("at first", x.count(6), 0);
        for (int y = 1; y <= 30; y++) {
            S.due("year", x.year(), y);
            S.due("this year", x.count(6), y);
        }
        S.due("no more", x.year(), NOT);
        S.due("this year", x.count(6), 30);
    }

    private static void wheelsWithin() {
        S.terms("WHEELS of a STREET in a YEAR (0 .. 9999), or none.");
        PavingTrust x = with(1);
        for (int n : Sentences.outside(-1, 9999)) {
            S.due(n + " wheels", x.wheels(0, 0, n), BAD);
        }
        S.due("none told", x.wear(0, 1), 0);
        S.due("9999", x.wheels(0, 0, 9999), 1);
        S.due("9999", x.wear(0, 1), 9999);
        S.due("0", x.wheels(0, 0, 0), 1);
        S.due("0", x.wear(0, 1), 0);
    }

    private static void wearFromThePaving() {
        S.terms("the WHEELS of all YEARS from that in which it was last PAVED (0 if never; that one, too) to y - 1, together");
        PavingTrust x = with(1);
        for (int y = 0; y <= 4; y++) {
            x.wheels(0, y, 1 << y);
            if (y == 1 || y == 3) {
                x.pave(0);
            }
            if (y == 2) {
                S.due("of the first paving: its year too", x.wear(0, 2), 2);
            }
            if (y < 4) {
                x.year();
            }
        }
        S.due("y is the year of the last paving", x.wear(0, 3), 0);
        S.due("that year too", x.wear(0, 4), 8);
        S.due("to y - 1", x.wear(0, 5), 24);
        S.due("ahead of the last paving", x.wear(0, 2), 0);
        S.due("ahead of all", x.wear(0, 0), 0);
    }

    private static void wearOfNeverPaved() {
        S.terms("(0 if never; that one, too)");
        PavingTrust x = with(2);
        x.wheels(0, 0, 5);
        S.due("the beginning of year 0", x.wear(0, 0), 0);
        S.due("year 0 too", x.wear(0, 1), 5);
        x.pave(1);
        x.wheels(1, 0, 5);
        S.due("paved in year 0", x.wear(1, 1), 5);
    }

    private static void meanWithoutRest() {
        S.terms("a YEAR without any counts as the mean (the rest away)");
        PavingTrust x = with(1);
        pass(x, 3);
        x.wheels(0, 0, 3);
        x.wheels(0, 1, 4);
        S.due("7 / 2 is 3", x.wear(0, 3), 10);
        x.wheels(0, 1, 3);
        S.due("6 / 2 is 3", x.wear(0, 3), 9);
        x.wheels(0, 1, 0);
        S.due("0 wheels are some: 3 / 2 is 1", x.wear(0, 3), 4);
        x.wheels(0, 1, -1);
        S.due("none: 3 / 1 is 3", x.wear(0, 3), 9);
        S.due("9999 of all", most().wear(0, 40), 40 * 9999);
    }

    private static PavingTrust most() {
        PavingTrust x = with(1);
        pass(x, 30);
        for (int y = 0; y <= 30; y++) {
            x.wheels(0, y, 9999);
        }
        return x;
    }

    private static void yearsOfTheMean() {
        S.terms("of those YEARS 0 .. THIS YEAR - 1 of that STREET that have some");
        PavingTrust x = with(2);
        x.wheels(0, 0, 10);
        x.wheels(1, 0, 999);
        S.due("this year is none of them", x.wear(0, 3), 10);
        x.year();
        S.due("the first year is one of them", x.wear(0, 3), 30);
        x.wheels(0, 1, 20);
        S.due("this year is none of them", x.wear(0, 3), 40);
        x.year();
        S.due("the year ahead of this one is", x.wear(0, 3), 45);
        x.pave(0);
        S.due("years ahead of the paving are", x.wear(0, 3), 15);
        S.due("of that street alone", x.wear(1, 2), 1998);
    }

    private static void meanOfNone() {
        S.terms("0 if none has.");
        PavingTrust x = with(1);
        S.due("no year has gone by", x.wear(0, 40), 0);
        pass(x, 2);
        S.due("none told", x.wear(0, 40), 0);
        x.wheels(0, 2, 7);
        S.due("this year's alone", x.wear(0, 40), 7);
        x.wheels(0, 1, 5);
        S.due("one has some", x.wear(0, 5), 5 + 5 + 7 + 5 + 5);
        x.wheels(0, 1, -1);
        S.due("it has none any more", x.wear(0, 40), 7);
    }

    private static void yearsToCome() {
        S.terms("(Also for YEARS to come.)");
        PavingTrust x = with(1);
        x.wheels(0, 0, 10);
        x.year();
        S.due("year 40", x.wear(0, 40), 400);
        x.wheels(0, 1, 3);
        S.due("this year's as told", x.wear(0, 40), 10 + 3 + 380);
        pass(x, 29);
        S.due("from year 30 on", x.wear(0, 40), 10 + 3 + 38 * 6);
    }

    private static PavingTrust planable(int streets) {
        PavingTrust x = with(streets);
        for (int i = 0; i < streets; i++) {
            x.wheels(i, 0, 1 << i);
            x.cost(i, 1, 0, 0);
        }
        x.year();
        return x;
    }

    private static void oneToSixStreets() {
        S.terms("PLAN for some STREETS (told as a set, 1 to 6 of them)");
        PavingTrust x = planable(8);
        S.due("none", x.plan(0, 1, 99, 0, 0), BAD);
        S.due("seven", x.plan(0b1111111, 1, 99, 0, 0), BAD);
        S.due("eight", x.plan(0b11111111, 1, 99, 0, 0), BAD);
        S.due("no plan yet", x.planned(0), BAD);
        for (int i = 0; i < 8; i++) {
            S.due("street " + i + " alone", x.plan(1 << i, 1, 99, 0, 0), 1 << i);
        }
        S.due("the first six", x.plan(0b111111, 1, 99, 0, 0), 0b111111);
        S.due("the last six", x.plan(0b11111100, 1, 99, 0, 0), 0b11111100);
        S.due("five", x.plan(0b10101011, 1, 99, 0, 0), 0b10101011);
    }

    private static void planYears() {
        S.terms("YEARS THIS YEAR .. THIS YEAR + n - 1 (n 1 .. 3)");
        PavingTrust x = planable(1);
        for (int n : Sentences.outside(1, 3)) {
            S.due(n + " years", x.plan(1, n, 0, 0, 0), BAD);
        }
        S.due("this year", x.plan(1, 1, 9, 0, 0), 1);
        S.due("this year", x.planned(0), 1);
        S.due("the next one", x.plan(1, 2, 9, 9, 0), 2);
        S.due("the next one", x.planned(0), 2);
        S.due("the third one", x.plan(1, 3, 9, 9, 9), 3);
        S.due("the third one", x.planned(0), 3);
        pass(x, 29);
        S.due("the last years", x.plan(1, 3, 9, 9, 9), 32);
        S.due("the last years", x.planned(0), 32);
    }

    private static void oneYearOrNone() {
        S.terms("each STREET is PAVED in one of these YEARS, or in none");
        PavingTrust x = planable(2);
        S.due("once, though there is money for all years", x.plan(1, 3, 99, 99, 99), 3);
        S.due("both in one year", x.plan(3, 3, 0, 0, 2), 3 + 6);
        S.due("both in one year", x.planned(0) * 10 + x.planned(1), 33);
        S.due("one in none", x.plan(3, 3, 0, 0, 1), 6);
        S.due("one in none", x.planned(0), NOT);
        S.due("both in none", x.plan(3, 3, 0, 0, 0), 0);
        S.due("both in none", x.planned(0) + x.planned(1), 2 * NOT);
    }

    private static void planMoney() {
        S.terms("with MONEY (0 .. 99999) for each of these");
        PavingTrust x = planable(1);
        for (int money : Sentences.outside(0, 99999)) {
            S.due("a " + money, x.plan(1, 3, money, 0, 0), BAD);
            S.due("b " + money, x.plan(1, 3, 0, money, 0), BAD);
            S.due("c " + money, x.plan(1, 3, 0, 0, money), BAD);
        }
        S.due("none", x.plan(1, 3, 0, 0, 0), 0);
        S.due("the most", x.plan(1, 3, 99999, 99999, 99999), 3);
        S.due("the first alone", x.plan(1, 3, 99999, 0, 0), 1);
        S.due("the second alone", x.plan(1, 3, 0, 99999, 0), 2);
        S.due("the third alone", x.plan(1, 3, 0, 0, 99999), 3);
    }

    private static void moneyIsEnough() {
        S.terms("the COSTS of those in a YEAR, together, are at most MONEY");
        PavingTrust x = planable(6);
        for (int i = 0; i < 6; i++) {
            x.cost(i, 9999, 0, 0);
        }
        S.due("all", x.plan(63, 1, 6 * 9999, 0, 0), 63);
        S.due("one too few", x.plan(63, 1, 6 * 9999 - 1, 0, 0), 62);
        S.due("left out", x.planned(0), NOT);
        S.due("just one", x.plan(63, 1, 9999, 0, 0), 32);
        S.due("none", x.plan(63, 1, 9998, 0, 0), 0);
        S.due("not of the years together", x.plan(63, 3, 9998, 9998, 9998), 0);
        S.due("of each year for itself", x.plan(3, 2, 9999, 9999, 0), 1 + 4);
    }

    private static void costWithin() {
        S.terms("COST of a STREET (1 .. 9999; told)");
        PavingTrust x = planable(1);
        for (int cost : Sentences.outside(1, 9999)) {
            S.due("cost " + cost, x.cost(0, cost, 0, 0), BAD);
        }
        S.due("still 1", x.plan(1, 1, 1, 0, 0), 1);
        S.due("cost 9999", x.cost(0, 9999, 0, 0), 1);
        S.due("too little", x.plan(1, 1, 9998, 0, 0), 0);
        S.due("enough", x.plan(1, 1, 9999, 0, 0), 1);
        S.due("cost 1", x.cost(0, 1, 0, 0), 1);
        S.due("too little", x.plan(1, 1, 0, 0, 0), 0);
    }

    private static void savingWithin() {
        S.terms("its SAVING (0 .. COST; told with a YEAR)");
        PavingTrust x = planable(1);
        for (int saving : Sentences.outside(0, 50)) {
            S.due("saving " + saving + " of 50", x.cost(0, 50, saving, 1), BAD);
        }
        S.due("saving 1 more than the least cost", x.cost(0, 1, 2, 1), BAD);
        S.due("saving none", x.cost(0, 50, 0, 1), 1);
        S.due("too little", x.plan(1, 1, 49, 0, 0), 0);
        S.due("saving all", x.cost(0, 50, 50, 1), 1);
        S.due("without money", x.plan(1, 1, 0, 0, 0), 1);
        S.due("saving all of the most", x.cost(0, 9999, 9999, 1), 1);
        S.due("without money", x.plan(1, 1, 0, 0, 0), 1);
    }

    private static void savingInThatYear() {
        S.terms("is less by its SAVING (0 .. COST; told with a YEAR) in that YEAR, when the pipes are laid.");
        PavingTrust x = planable(1);
        for (int y = 0; y <= 4; y++) {
            x.cost(0, 50, 20, y);
            S.due("saved in " + y + ", year 1", x.plan(1, 3, 30, 0, 0), y == 1 ? 1 : 0);
            S.due("saved in " + y + ", year 2", x.plan(1, 3, 0, 30, 0), y == 2 ? 2 : 0);
            S.due("saved in " + y + ", year 3", x.plan(1, 3, 0, 0, 30), y == 3 ? 3 : 0);
            S.due("one too few", x.plan(1, 3, 29, 29, 29), 0);
        }
    }

    private static void worthOfEachYear() {
        S.terms("WORTH: the sum of WEAR of each STREET at the beginning of the YEAR in which it is PAVED. The PLAN is that of the greatest WORTH");
        PavingTrust x = planable(2);
        S.due("each in its year, none in none", x.plan(3, 3, 1, 0, 1), 1 + 6);
        S.due("the lesser one earlier", x.planned(0), 1);
        S.due("the greater one later", x.planned(1), 3);
        S.due("nothing can be paved", x.plan(3, 3, 0, 0, 0), 0);
        S.due("none", x.planned(0), NOT);
        S.due("none", x.planned(1), NOT);
    }

    private static void leastCosts() {
        S.terms("of several the one of the least COSTS together");
        PavingTrust x = with(2);
        x.wheels(0, 0, 10);
        x.year();
        x.wheels(0, 1, 0);
        x.cost(0, 9, 1, 2);
        x.cost(1, 1, 0, 0);
        S.due("equal in both years", x.plan(1, 2, 9, 9, 0), 10);
        S.due("the later one costs less", x.planned(0), 2);
        S.due("no worth", x.plan(2, 2, 9, 9, 0), 0);
        S.due("none costs less", x.planned(1), NOT);
        x.cost(0, 9, 0, 2);
        S.due("equal costs too", x.plan(1, 2, 9, 9, 0), 10);
        S.due("the earlier one", x.planned(0), 1);
    }

    private static void theFirstOfSeveral() {
        S.terms("of several the first: at the least STREET where they differ the earlier YEAR, none being behind all.");
        PavingTrust x = with(3);
        for (int i = 0; i < 3; i++) {
            x.wheels(i, 0, 10);
        }
        x.year();
        for (int i = 0; i < 3; i++) {
            x.wheels(i, 1, 0);
            x.cost(i, 7, 0, 0);
        }
        S.due("room for one a year", x.plan(7, 2, 7, 7, 0), 20);
        S.due("the least street first", x.planned(0), 1);
        S.due("then the next", x.planned(1), 2);
        S.due("none is behind", x.planned(2), NOT);
        S.due("room for two in the first year", x.plan(7, 2, 14, 7, 0), 30);
        S.due("first", x.planned(0), 1);
        S.due("first", x.planned(1), 1);
        S.due("second", x.planned(2), 2);
        S.due("room for two in the second year", x.plan(7, 2, 7, 14, 0), 30);
        S.due("first", x.planned(0), 1);
        S.due("second", x.planned(1), 2);
        S.due("second", x.planned(2), 2);
        PavingTrust y = with(1);
        y.cost(0, 5, 5, 1);
        S.due("without worth and costs", y.plan(1, 3, 9, 9, 9), 0);
        S.due("a year is ahead of none", y.planned(0), 1);
    }

    private static void yearRefused() {
        S.promise(16, "THIS YEAR is one more: it. NOT: it is 30.");
        PavingTrust x = new PavingTrust();
        pass(x, 28);
        S.due("29", x.year(), 29);
        S.due("30", x.year(), 30);
        S.due("it is 30", x.year(), NOT);
        S.due("it is 30", x.year(), NOT);
        S.due("still", x.count(6), 30);
    }

    private static void wheelsOfYears() {
        S.promise(17, "WHEELS of a STREET in a YEAR (0 .. THIS YEAR): 1; -1: none. BAD.");
        PavingTrust x = with(1);
        for (int thisYear = 0; thisYear <= 30; thisYear++) {
            for (int y : Sentences.outside(0, thisYear)) {
                S.due("year " + y, x.wheels(0, y, 5), BAD);
            }
            S.due("this year", x.wheels(0, thisYear, 5), 1);
            S.due("year 0", x.wheels(0, 0, 5), 1);
            x.year();
        }
        for (int n : Sentences.outside(0, 0)) {
            S.due("street " + n, x.wheels(n, 0, 5), BAD);
        }
        S.due("all told", x.wear(0, 31), 155);
        S.due("none", x.wheels(0, 30, -1), 1);
        S.due("its mean then", x.wear(0, 31), 155);
        S.due("below none", x.wheels(0, 30, -2), BAD);
    }

    private static void paveAnswers() {
        S.promise(18, "A STREET was PAVED in THIS YEAR: its WEAR at the beginning of it. BAD.");
        PavingTrust x = with(2);
        for (int n : Sentences.outside(0, 1)) {
            S.due("street " + n, x.pave(n), BAD);
        }
        x.wheels(0, 0, 10);
        S.due("in year 0", x.pave(0), 0);
        x.year();
        x.wheels(0, 1, 100);
        S.due("without this year", x.pave(0), 10);
        S.due("twice in a year", x.pave(0), 0);
        pass(x, 29);
        S.due("in year 30", x.pave(0), 100 + 28 * 55);
        S.due("twice in a year", x.pave(0), 0);
        S.due("the other street", x.pave(1), 0);
    }

    private static void wearRefused() {
        S.promise(19, "WEAR at the beginning of a YEAR (0 .. 40). BAD.");
        PavingTrust x = with(1);
        x.wheels(0, 0, 3);
        x.year();
        for (int y : Sentences.outside(0, 40)) {
            S.due("year " + y, x.wear(0, y), BAD);
        }
        for (int n : Sentences.outside(0, 0)) {
            S.due("street " + n, x.wear(n, 1), BAD);
        }
        for (int y = 0; y <= 40; y++) {
            S.due("year " + y, x.wear(0, y), 3 * y);
        }
    }

    private static void costRefused() {
        S.promise(20, "COST, SAVING and its YEAR (0 .. 40) of a STREET: 1. BAD.");
        PavingTrust x = with(1);
        for (int y : Sentences.outside(0, 40)) {
            S.due("year " + y, x.cost(0, 5, 0, y), BAD);
        }
        for (int n : Sentences.outside(0, 0)) {
            S.due("street " + n, x.cost(n, 5, 0, 0), BAD);
        }
        S.due("none told yet", x.plan(1, 1, 9, 0, 0), BAD);
        for (int y = 0; y <= 40; y++) {
            S.due("year " + y, x.cost(0, 5, 5, y), 1);
        }
        S.due("told", x.plan(1, 1, 9, 0, 0), 0);
    }

    private static void moneyBehind() {
        S.promise(21, "money: for each of n YEARS (those behind n must be 0).");
        PavingTrust x = planable(1);
        S.due("one year", x.plan(1, 1, 9, 0, 0), 1);
        S.due("one year, money for the second", x.plan(1, 1, 9, 1, 0), BAD);
        S.due("one year, money for the third", x.plan(1, 1, 9, 0, 1), BAD);
        S.due("one year, less than none for the second", x.plan(1, 1, 9, -1, 0), BAD);
        S.due("one year, less than none for the third", x.plan(1, 1, 9, 0, -1), BAD);
        S.due("two years", x.plan(1, 2, 9, 9, 0), 2);
        S.due("two years, money for the third", x.plan(1, 2, 9, 9, 1), BAD);
        S.due("two years, less than none for the third", x.plan(1, 2, 9, 9, -1), BAD);
        S.due("three years", x.plan(1, 3, 9, 9, 9), 3);
    }

    private static void planRefused() {
        S.promise(21, "BAD: also a STREET in the set that is none, or without COST.");
        PavingTrust x = planable(3);
        x.street(1, 1, 1);
        S.due("street 3 is without cost", x.plan(8, 1, 9, 0, 0), BAD);
        S.due("street 3 is without cost, among others", x.plan(15, 1, 9, 0, 0), BAD);
        for (int bit = 4; bit < 32; bit++) {
            S.due("street " + bit + " is none", x.plan(1 << bit, 1, 9, 0, 0), BAD);
            S.due("street " + bit + " is none, among others", x.plan(1 | 1 << bit, 1, 9, 0, 0), BAD);
        }
        S.due("below 0", x.plan(-1, 1, 9, 0, 0), BAD);
        S.due("no plan yet", x.planned(0), BAD);
        x.cost(3, 1, 1, 0);
        S.due("with cost", x.plan(15, 1, 9, 0, 0), 7);
    }

    private static void plannedLatest() {
        S.promise(22, "The YEAR in which a STREET is PAVED by the latest plan() that was not refused; NOT: none.");
        PavingTrust x = planable(2);
        x.plan(3, 1, 1, 0, 0);
        S.due("none", x.planned(0), NOT);
        S.due("this year", x.planned(1), 1);
        S.due("refused", x.plan(1, 4, 1, 0, 0), BAD);
        S.due("refused", x.plan(4, 1, 1, 0, 0), BAD);
        S.due("refused", x.plan(1, 1, 100000, 0, 0), BAD);
        S.due("still none", x.planned(0), NOT);
        S.due("still that year", x.planned(1), 1);
        x.year();
        S.due("a later year does not change it", x.planned(1), 1);
        x.plan(1, 1, 1, 0, 0);
        S.due("the latest", x.planned(0), 2);
    }

    private static void plannedRefused() {
        S.promise(22, "BAD: it was not in the set, or before any.");
        PavingTrust x = planable(8);
        for (int i = 0; i < 8; i++) {
            S.due("before any", x.planned(i), BAD);
        }
        x.plan(0b01010101, 1, 9, 0, 0);
        for (int i = 0; i < 8; i++) {
            S.due("street " + i, x.planned(i), i % 2 == 0 ? 1 : BAD);
        }
        x.plan(0b10000000, 1, 0, 0, 0);
        for (int i = 0; i < 7; i++) {
            S.due("not in the latest set", x.planned(i), BAD);
        }
        S.due("in the set, but in no year", x.planned(7), NOT);
        for (int n : Sentences.outside(0, 7)) {
            S.due("street " + n, x.planned(n), BAD);
        }
    }
}
