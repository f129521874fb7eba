import java.util.Random;

/** Promises 16 to 22: years, wheels, wear, costs and plans. */
public final class YearsTest {
    private static final Check CHECK = new Check();
    private static final int[] EDGES = {Integer.MIN_VALUE, -2, Integer.MAX_VALUE};

    public static void main(String[] args) {
        years();
        wheelsRefused();
        wearByHand();
        wearByChance();
        costs();
        planRefused();
        planByHand();
        planByChance();
        CHECK.end();
    }

    private static void years() {
        PavingTrust x = new PavingTrust();
        for (int y = 1; y <= 30; y++) {
            CHECK.due("year", x.year(), y);
        }
        CHECK.due("year 30", x.year(), -2);
        CHECK.due("year 30", x.count(6), 30);
        x.street(1, 1, 1);
        CHECK.due("wheels of the last year", x.wheels(0, 30, 7), 1);
        CHECK.due("wheels beyond", x.wheels(0, 31, 7), -1);
        CHECK.due("wear of the last year", x.wear(0, 40), 7);
        CHECK.due("pave", x.pave(0), 0);
        CHECK.due("wear from the last year", x.wear(0, 31), 7);
        x.cost(0, 5, 5, 32);
        CHECK.due("plan at the end", x.plan(1, 3, 0, 0, 0), 7);
        CHECK.due("planned at the end", x.planned(0), 32);
    }

    private static void wheelsRefused() {
        PavingTrust x = new PavingTrust();
        x.street(1, 1, 1);
        CHECK.due("year to come", x.wheels(0, 1, 5), -1);
        CHECK.due("year ahead of all", x.wheels(0, -1, 5), -1);
        CHECK.due("no street", x.wheels(1, 0, 5), -1);
        CHECK.due("too many", x.wheels(0, 0, 10000), -1);
        CHECK.due("too few", x.wheels(0, 0, -2), -1);
        for (int e : EDGES) {
            CHECK.due("wheels edge", x.wheels(e, 0, 1) + x.wheels(0, e, 1) + x.wheels(0, 0, e), -3);
            CHECK.due("wear edge", x.wear(e, 0) + x.wear(0, e), -2);
            CHECK.due("pave edge", x.pave(e), -1);
        }
        CHECK.due("none told", x.wear(0, 1), 0);
        CHECK.due("most", x.wheels(0, 0, 9999), 1);
        CHECK.due("most", x.wear(0, 1), 9999);
        CHECK.due("least", x.wheels(0, 0, 0), 1);
        CHECK.due("least", x.wear(0, 1), 0);
        CHECK.due("wear of year 40", x.wear(0, 40), 0);
        CHECK.due("wear of year 41", x.wear(0, 41), -1);
        CHECK.due("wear of year -1", x.wear(0, -1), -1);
        CHECK.due("wear of no street", x.wear(1, 0), -1);
        CHECK.due("pave no street", x.pave(1), -1);
    }

    private static void wearByHand() {
        PavingTrust x = new PavingTrust();
        x.street(1, 1, 1);
        x.wheels(0, 0, 10);
        CHECK.due("this year is not of the mean", x.wear(0, 3), 10);
        x.year();
        CHECK.due("mean", x.wear(0, 3), 30);
        x.wheels(0, 1, 0);
        CHECK.due("told 0 this year", x.wear(0, 3), 20);
        x.year();
        CHECK.due("told 0 is of the mean", x.wear(0, 3), 15);
        x.year();
        x.wheels(0, 2, 3);
        CHECK.due("the rest away: 13 / 3", x.wear(0, 5), 13 + 8);
        CHECK.due("pave: its wear ahead of it", x.pave(0), 13);
        CHECK.due("paved twice", x.pave(0), 0);
        CHECK.due("wear ahead of the paving", x.wear(0, 2), 0);
        CHECK.due("that year too", x.wear(0, 4), 4);
        x.wheels(0, 3, 100);
        CHECK.due("that year too", x.wear(0, 4), 100);
        CHECK.due("years ahead of the paving are of the mean", x.wear(0, 6), 108);
        x.wheels(0, 2, -1);
        CHECK.due("told none: 10 / 2", x.wear(0, 6), 110);
        x.wheels(0, 0, -1);
        x.wheels(0, 1, -1);
        CHECK.due("none has some", x.wear(0, 6), 100);
        x.street(1, 1, 1);
        CHECK.due("of that street alone", x.wear(1, 40), 0);
    }

    private static int wearOf(int[] wheels, int paved, int thisYear, int year) {
        long together = 0;
        int some = 0;
        for (int y = 0; y < thisYear; y++) {
            if (wheels[y] >= 0) {
                together += wheels[y];
                some++;
            }
        }
        int mean = some == 0 ? 0 : (int) (together / some);
        int worn = 0;
        for (int y = 0; y < year; y++) {
            if (y >= paved) {
                worn += wheels[y] >= 0 ? wheels[y] : mean;
            }
        }
        return worn;
    }

    private static int[] noWheels() {
        int[] wheels = new int[41];
        java.util.Arrays.fill(wheels, -1);
        return wheels;
    }

    private static void wearByChance() {
        Random random = new Random(4);
        for (int run = 0; run < 100; run++) {
            PavingTrust x = new PavingTrust();
            x.street(1, 1, 1);
            int[] wheels = noWheels();
            int paved = 0;
            int thisYear = 0;
            for (int i = 0; i < 100; i++) {
                int what = random.nextInt(8);
                if (what == 0 && thisYear < 30) {
                    thisYear = x.year();
                } else if (what == 1 && random.nextInt(4) == 0) {
                    CHECK.due("pave", x.pave(0), wearOf(wheels, paved, thisYear, thisYear));
                    paved = thisYear;
                } else if (what < 5) {
                    int y = random.nextInt(thisYear + 1);
                    wheels[y] = random.nextInt(4) == 0 ? -1 : random.nextInt(10000);
                    CHECK.due("wheels", x.wheels(0, y, wheels[y]), 1);
                }
                int year = random.nextInt(41);
                CHECK.due("wear", x.wear(0, year), wearOf(wheels, paved, thisYear, year));
            }
        }
    }

    private static void costs() {
        PavingTrust x = new PavingTrust();
        x.street(1, 1, 1);
        int[][] wrong = {{1, 1, 0, 0}, {-1, 1, 0, 0}, {0, 0, 0, 0}, {0, 10000, 0, 0}, {0, 5, -1, 0}, {0, 5, 6, 0},
            {0, 5, 0, -1}, {0, 5, 0, 41}, {Integer.MAX_VALUE, 1, 0, 0}, {0, Integer.MIN_VALUE, 0, 0},
            {0, 5, Integer.MIN_VALUE, 0}, {0, 5, 0, Integer.MAX_VALUE}};
        for (int[] w : wrong) {
            CHECK.due("cost wrong", x.cost(w[0], w[1], w[2], w[3]), -1);
        }
        CHECK.due("none told", x.plan(1, 1, 0, 0, 0), -1);
        CHECK.due("cost", x.cost(0, 1, 0, 0), 1);
        CHECK.due("cost", x.cost(0, 9999, 9999, 40), 1);
        CHECK.due("cost", x.cost(0, 9999, 9999, 0), 1);
        CHECK.due("saved all", x.plan(1, 1, 0, 0, 0), 0);
        CHECK.due("saved all", x.planned(0), 0);
        x.cost(0, 9999, 9999, 1);
        x.plan(1, 1, 9998, 0, 0);
        CHECK.due("saved in another year", x.planned(0), -2);
        x.plan(1, 1, 9999, 0, 0);
        CHECK.due("no worth: the least costs", x.planned(0), -2);
    }

    private static void planRefused() {
        PavingTrust x = new PavingTrust();
        for (int i = 0; i < 8; i++) {
            x.street(1, 1, 1);
            x.wheels(i, 0, 10 + i);
            if (i != 3) {
                x.cost(i, 1, 0, 0);
            }
        }
        x.year();
        CHECK.due("planned before any", x.planned(0), -1);
        CHECK.due("plan", x.plan(0b11, 1, 5, 0, 0), 21);
        int[][] wrong = {{0, 1, 5, 0, 0}, {0b11111110111, 1, 5, 0, 0}, {0b11110111, 1, 5, 0, 0}, {8, 1, 5, 0, 0}, {9, 1, 5, 0, 0},
            {256, 1, 5, 0, 0}, {257, 1, 5, 0, 0}, {-1, 1, 5, 0, 0}, {Integer.MIN_VALUE + 1, 1, 5, 0, 0}, {1, 0, 0, 0, 0},
            {1, 4, 5, 0, 0}, {1, 1, -1, 0, 0}, {1, 1, 100000, 0, 0}, {1, 1, 5, 1, 0}, {1, 1, 5, 0, 1}, {1, 2, 5, 5, 1},
            {1, 2, 5, -1, 0}, {1, 3, 5, 5, -1}, {1, 3, 5, 5, 100000}, {1, 2, 5, 100000, 0}, {1, Integer.MAX_VALUE, 5, 5, 5}};
        for (int[] w : wrong) {
            CHECK.due("plan wrong " + w[0], x.plan(w[0], w[1], w[2], w[3], w[4]), -1);
        }
        CHECK.due("the latest not refused", x.planned(1), 1);
        CHECK.due("not in the set", x.planned(2), -1);
        for (int e : EDGES) {
            CHECK.due("planned edge", x.planned(e), -1);
        }
        CHECK.due("planned 8", x.planned(8), -1);
        CHECK.due("six", x.plan(0b11110110, 1, 99999, 0, 0), 11 + 12 + 14 + 15 + 16 + 17);
        CHECK.due("not in the set any more", x.planned(0), -1);
        CHECK.due("in the set", x.planned(7), 1);
        CHECK.due("one of those of the former plan", x.plan(2, 1, 99999, 0, 0), 11);
        CHECK.due("in the set", x.planned(1), 1);
        CHECK.due("not in the set any more", x.planned(7), -1);
    }

    private static void planByHand() {
        PavingTrust x = new PavingTrust();
        for (int i = 0; i < 2; i++) {
            x.street(1, 1, 1);
            x.wheels(i, 0, 10);
            x.cost(i, 7, 0, 0);
        }
        x.year();
        x.wheels(0, 1, 0);
        x.wheels(1, 1, 0);
        CHECK.due("equal worth and costs", x.plan(3, 2, 7, 7, 0), 20);
        CHECK.due("the least street earlier", x.planned(0), 1);
        CHECK.due("the other later", x.planned(1), 2);
        CHECK.due("one of them", x.plan(3, 1, 7, 0, 0), 10);
        CHECK.due("none is behind all", x.planned(0), 1);
        CHECK.due("none is behind all", x.planned(1), -2);
        x.cost(0, 7, 1, 2);
        CHECK.due("the least costs", x.plan(3, 2, 7, 7, 0), 20);
        CHECK.due("when the pipes are laid", x.planned(0), 2);
        CHECK.due("the other", x.planned(1), 1);
        CHECK.due("money is at most", x.plan(3, 2, 0, 5, 0), 0);
        CHECK.due("money is enough", x.plan(3, 2, 0, 6, 0), 10);
    }

    private static void planByChance() {
        Random random = new Random(5);
        for (int run = 0; run < 400; run++) {
            PavingTrust x = new PavingTrust();
            int streets = 1 + random.nextInt(8);
            int[][] wheels = new int[streets][];
            int[][] cost = new int[streets][];
            int range = 1 + random.nextInt(run % 2 == 0 ? 3 : 30);
            int thisYear = random.nextInt(6);
            for (int y = 0; y < thisYear; y++) {
                x.year();
            }
            int[] paved = new int[streets];
            for (int i = 0; i < streets; i++) {
                x.street(1, 1, 1);
                wheels[i] = noWheels();
                for (int y = 0; y <= thisYear; y++) {
                    wheels[i][y] = random.nextInt(3) == 0 ? -1 : random.nextInt(range);
                    x.wheels(i, y, wheels[i][y]);
                }
                if (random.nextInt(8) == 0) {
                    x.pave(i);
                    paved[i] = thisYear;
                }
                int full = 1 + random.nextInt(range);
                cost[i] = new int[] {full, random.nextInt(full + 1), thisYear + random.nextInt(4)};
                x.cost(i, full, cost[i][1], cost[i][2]);
            }
            int set = 1 + random.nextInt((1 << streets) - 1);
            int n = 1 + random.nextInt(3);
            int[] money = new int[3];
            for (int i = 0; i < n; i++) {
                money[i] = random.nextInt(3 * range);
            }
            int got = x.plan(set, n, money[0], money[1], money[2]);
            if (Integer.bitCount(set) > 6) {
                CHECK.due("too many", got, -1);
                continue;
            }
            int[] best = bestPlan(wheels, paved, cost, set, n, money, thisYear);
            CHECK.due("plan", got, best[streets]);
            for (int i = 0; i < streets; i++) {
                int due = (set >> i & 1) == 0 ? -1 : best[i] == n ? -2 : thisYear + best[i];
                CHECK.due("planned", x.planned(i), due);
            }
        }
    }

    private static int[] bestPlan(int[][] wheels, int[] paved, int[][] cost, int set, int n, int[] money, int thisYear) {
        int streets = wheels.length;
        int[] best = new int[streets + 2];
        best[streets] = -1;
        int all = 1;
        for (int i = 0; i < Integer.bitCount(set); i++) {
            all *= n + 1;
        }
        for (int code = 0; code < all; code++) {
            int[] tried = new int[streets + 2];
            int[] spent = new int[4];
            int rest = code;
            for (int i = streets - 1; i >= 0; i--) {
                if ((set >> i & 1) == 0) {
                    continue;
                }
                int y = rest % (n + 1);
                rest /= n + 1;
                tried[i] = y;
                if (y < n) {
                    spent[y] += cost[i][0] - (cost[i][2] == thisYear + y ? cost[i][1] : 0);
                    tried[streets] += wearOf(wheels[i], paved[i], thisYear, thisYear + y);
                }
            }
            tried[streets + 1] = spent[0] + spent[1] + spent[2];
            boolean fits = spent[0] <= money[0] && spent[1] <= money[1] && spent[2] <= money[2];
            if (fits && (tried[streets] > best[streets]
                    || tried[streets] == best[streets] && tried[streets + 1] < best[streets + 1])) {
                best = tried;
            }
        }
        return best;
    }
}
