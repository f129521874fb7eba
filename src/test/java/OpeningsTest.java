import java.util.Random;

/** Promises 31 to 35: openings, their putting back, penalties and sinks. */
public final class OpeningsTest {
    private static final Check CHECK = new Check();
    private static final int VOID = PavingTrust.VOID;

    public static void main(String[] args) {
        openRefused();
        openFull();
        back();
        openingTold();
        sinks();
        penalties();
        penaltyRefused();
        byChance();
        CHECK.end();
    }

    private static PavingTrust withStreet() {
        PavingTrust x = new PavingTrust();
        x.street(2, 3, 5);
        return x;
    }

    private static void openRefused() {
        PavingTrust x = withStreet();
        int[][] wrong = {{-1, 0, 0, 1}, {4, 0, 0, 1}, {0, 1, 0, 1}, {0, -1, 0, 1}, {0, 0, 3, 1}, {0, 0, 15, 1}, {0, 0, 19, 1},
            {0, 0, 32, 1}, {0, 0, -1, 1}, {0, 0, -16, 1}, {0, 0, 0, 0}, {0, 0, 0, 100}, {0, 0, Integer.MIN_VALUE, 1},
            {0, 0, Integer.MAX_VALUE, 1}, {Integer.MAX_VALUE, 0, 0, 1}, {0, Integer.MIN_VALUE, 0, 1}, {0, 0, 0, Integer.MIN_VALUE}};
        for (int[] w : wrong) {
            CHECK.due("open wrong", x.open(w[0], w[1], w[2], w[3]), -1);
        }
        CHECK.due("none", x.count(3), 0);
        CHECK.due("open", x.open(0, 0, 0, 1), 0);
        CHECK.due("open greatest", x.open(3, 0, 18, 99), 1);
        CHECK.due("it is open", x.open(2, 0, 0, 1), -2);
        CHECK.due("wrong ahead of open", x.open(4, 0, 0, 1), -1);
        x.street(2, 3, 5);
        CHECK.due("another street", x.open(0, 1, 0, 1), 2);
        CHECK.due("another square", x.open(0, 0, 16, 1), 3);
        CHECK.due("count", x.count(3), 4);
    }

    private static void openFull() {
        PavingTrust x = withStreet();
        x.open(0, 0, 1, 1);
        for (int i = 1; i < 200; i++) {
            CHECK.due("open", x.open(i % 4, 0, 0, 1), i);
            CHECK.due("back", x.back(i), 0);
        }
        CHECK.due("open full", x.open(0, 0, 0, 1), -3);
        CHECK.due("open ahead of full", x.open(0, 0, 1, 1), -2);
        CHECK.due("wrong ahead of full", x.open(0, 0, 0, 0), -1);
        CHECK.due("all", x.count(3), 200);
        CHECK.due("open ones", x.count(4), 1);
        CHECK.due("the greater number of one day", x.sink(0, 0), 199);
        CHECK.due("last", x.opening(199, 0), 3);
        CHECK.due("none behind the last one", x.opening(200, 0), -2);
    }

    private static void back() {
        PavingTrust x = withStreet();
        int[] none = {-1, 0, 1, 200, Integer.MAX_VALUE, Integer.MIN_VALUE};
        for (int n : none) {
            CHECK.due("back none", x.back(n), -1);
        }
        x.days(3);
        x.open(0, 0, 0, 1);
        x.open(0, 0, 1, 1);
        CHECK.due("count open", x.count(4), 2);
        CHECK.due("the same day", x.back(1), 0);
        x.days(7);
        CHECK.due("back", x.back(0), 7);
        CHECK.due("back twice", x.back(0), -2);
        CHECK.due("count open", x.count(4), 0);
        CHECK.due("count all", x.count(3), 2);
    }

    private static void openingTold() {
        PavingTrust x = withStreet();
        x.street(4, 4, 4);
        x.days(9);
        x.open(3, 1, 35, 42);
        int[] due = {3, 1, 35, 9, 42, -1};
        for (int what = 0; what < 6; what++) {
            CHECK.due("opening " + what, x.opening(0, what), due[what]);
        }
        x.days(1);
        x.back(0);
        CHECK.due("put back", x.opening(0, 5), 10);
        CHECK.due("the day", x.opening(0, 3), 9);
        int[] wrong = {-1, 6, Integer.MAX_VALUE, Integer.MIN_VALUE};
        for (int w : wrong) {
            CHECK.due("opening wrong", x.opening(0, w), -2);
            CHECK.due("no such opening", x.opening(w, 0), -2);
        }
        CHECK.due("no such opening", x.opening(1, 5), -2);
    }

    private static void sinks() {
        PavingTrust x = withStreet();
        int[][] wrong = {{1, 0}, {-1, 0}, {0, 3}, {0, 32}, {0, -1}, {Integer.MAX_VALUE, 0}, {0, Integer.MIN_VALUE}};
        for (int[] w : wrong) {
            CHECK.due("sink wrong", x.sink(w[0], w[1]), -1);
        }
        CHECK.due("never opened", x.sink(0, 0), -2);
        x.open(0, 0, 0, 1);
        CHECK.due("open now", x.sink(0, 0), 0);
        CHECK.due("another square", x.sink(0, 1), -2);
        x.back(0);
        CHECK.due("put back", x.sink(0, 0), 0);
        x.open(1, 0, 0, 1);
        CHECK.due("open now", x.sink(0, 0), 1);
        x.back(1);
        CHECK.due("of one day the greater number", x.sink(0, 0), 1);
        x.days(1);
        x.open(2, 0, 0, 1);
        x.open(2, 0, 1, 1);
        x.days(1);
        x.back(2);
        CHECK.due("put back last", x.sink(0, 0), 2);
        CHECK.due("another square", x.sink(0, 1), 3);
        x.street(2, 3, 5);
        CHECK.due("another street", x.sink(1, 0), -2);
    }

    private static void penalties() {
        PavingTrust x = withStreet();
        x.street(2, 3, 5);
        x.days(2);
        x.open(3, 1, 0, 4);
        x.open(3, 1, 1, 1);
        x.open(2, 1, 2, 1);
        x.days(10);
        CHECK.due("without an act", x.penalty(0, 12, 12), 0);
        Tape.act(x, 1, 0, "d+l*100+w*10000+s*100000+n*200000");
        int rest = 30000 + 100000 + 400000;
        CHECK.due("ahead of the opening", x.penalty(0, 1, 12), 0);
        CHECK.due("on the day", x.penalty(0, 2, 12), rest);
        CHECK.due("within leave", x.penalty(0, 6, 12), rest + 4);
        CHECK.due("beyond leave", x.penalty(0, 7, 12), rest + 5 + 100);
        CHECK.due("today", x.penalty(0, 12, 12), rest + 10 + 600);
        CHECK.due("known later", x.penalty(0, 12, 9999), rest + 10 + 600);
        CHECK.due("not known", x.penalty(0, 12, 11), 0);
        x.back(1);
        CHECK.due("open now", x.penalty(0, 12, 12), rest - 200000 + 10 + 600);
        x.back(0);
        CHECK.due("none open now", x.penalty(0, 12, 12), rest - 400000 + 10 + 600);
        x.days(5);
        CHECK.due("as of the day put back", x.penalty(0, 17, 17), rest - 400000 + 10 + 600);
        CHECK.due("as of that day, if earlier", x.penalty(0, 8, 17), rest - 400000 + 6 + 200);
        CHECK.due("of another company", x.penalty(2, 17, 17), 15 + 1400 + 20000 + 100000 + 200000);
        Tape.act(x, 1, 10, "0-5");
        CHECK.due("0 at least", x.penalty(0, 10, 17), 0);
        CHECK.due("the act of that day", x.penalty(0, 9, 17), rest - 400000 + 7 + 300);
        Tape.act(x, 1, 0, "999999+w");
        CHECK.due("1000000 at most", x.penalty(0, 10, 17), 1000000);
        Tape.act(x, 0, 0, "1");
        CHECK.due("of its kind", x.penalty(0, 10, 17), 1000000);
    }

    private static void penaltyRefused() {
        PavingTrust x = withStreet();
        x.open(0, 0, 0, 1);
        x.days(5);
        Tape.act(x, 1, 0, "d");
        int[][] wrong = {{1, 0, 0}, {-1, 0, 0}, {0, -1, 0}, {0, 6, 0}, {0, 0, -1}, {0, 0, 10000}, {Integer.MAX_VALUE, 0, 0},
            {0, Integer.MIN_VALUE, 0}, {0, Integer.MAX_VALUE, 0}, {0, 0, Integer.MIN_VALUE}};
        for (int[] w : wrong) {
            CHECK.due("penalty wrong", x.penalty(w[0], w[1], w[2]), VOID);
        }
        CHECK.due("penalty", x.penalty(0, 5, 5), 5);
    }

    /** Against a plain table of openings: company, street, at, day, leave, back. */
    private static void byChance() {
        Random random = new Random(8);
        for (int run = 0; run < 60; run++) {
            PavingTrust x = new PavingTrust();
            x.street(2, 2, 1);
            x.street(1, 3, 1);
            Tape.act(x, 1, 0, "d+l*100+w*10000+s*100000+n*200000");
            int[][] told = new int[200][];
            int n = 0;
            int today = 0;
            for (int i = 0; i < 150; i++) {
                int street = random.nextInt(2);
                int at = street == 0 ? 16 * random.nextInt(2) + random.nextInt(2) : random.nextInt(3);
                int open = -1;
                int last = -1;
                for (int j = 0; j < n; j++) {
                    if (told[j][1] == street && told[j][2] == at) {
                        open = told[j][5] < 0 ? j : open;
                        last = told[j][5] >= 0 && (last < 0 || told[j][5] >= told[last][5]) ? j : last;
                    }
                }
                CHECK.due("sink", x.sink(street, at), open >= 0 ? open : last >= 0 ? last : -2);
                int what = random.nextInt(4);
                if (what == 0) {
                    today = x.days(1 + random.nextInt(3));
                } else if (what == 1 && open >= 0) {
                    CHECK.due("back", x.back(open), today - told[open][3]);
                    told[open][5] = today;
                } else {
                    int[] o = {random.nextInt(4), street, at, today, 1 + random.nextInt(5), -1};
                    CHECK.due("open", x.open(o[0], street, at, o[4]), open >= 0 ? -2 : n);
                    if (open < 0) {
                        told[n++] = o;
                    }
                }
                if (n > 0) {
                    int j = random.nextInt(n);
                    int day = random.nextInt(today + 1);
                    CHECK.due("penalty", x.penalty(j, day, random.nextInt(10000)), penaltyOf(told, n, j, day));
                }
            }
        }
    }

    private static int penaltyOf(int[][] told, int n, int opening, int day) {
        int[] o = told[opening];
        if (day < o[3]) {
            return 0;
        }
        int open = 0;
        for (int i = 0; i < n; i++) {
            open += told[i][0] == o[0] && told[i][5] < 0 ? 1 : 0;
        }
        int d = (o[5] >= 0 && o[5] < day ? o[5] : day) - o[3];
        int l = d <= o[4] ? 0 : d - o[4];
        return Math.min(1000000, d + l * 100 + o[0] * 10000 + o[1] * 100000 + open * 200000);
    }
}
