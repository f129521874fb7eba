import java.util.Random;

/** Promises 12 to 15: stones, courses and laying. */
public final class StonesTest {
    private static final Check CHECK = new Check();

    public static void main(String[] args) {
        stones();
        refused();
        latestCourse();
        byChance();
        CHECK.end();
    }

    private static void stones() {
        PavingTrust x = new PavingTrust();
        int[][] wrong = {{0, 1}, {10, 1}, {1, 0}, {1, 100}, {-1, 1}, {1, -1},
            {Integer.MIN_VALUE, 1}, {Integer.MAX_VALUE, 1}, {1, Integer.MAX_VALUE}};
        for (int[] w : wrong) {
            CHECK.due("stones wrong", x.stones(w[0], w[1]), -1);
        }
        for (int i = 1; i <= 10; i++) {
            CHECK.due("stones", x.stones(9, 99), 99 * i);
        }
        CHECK.due("too many", x.stones(9, 10), -2);
        CHECK.due("wrong ahead of too many", x.stones(9, 100), -1);
        CHECK.due("the most", x.stones(9, 9), 999);
        CHECK.due("one more", x.stones(9, 1), -2);
        CHECK.due("another size", x.stones(1, 1), 1);
        CHECK.due("all", x.count(8), 1000);
    }

    private static void refused() {
        PavingTrust x = new PavingTrust();
        x.stones(2, 99);
        int[] wrong = {0, -1, 61, Integer.MIN_VALUE, Integer.MAX_VALUE};
        for (int w : wrong) {
            CHECK.due("course wrong", x.course(w), -1);
            CHECK.due("lay wrong", x.lay(w), -1);
        }
        CHECK.due("of before any", x.of(2), -1);
        CHECK.due("odd", x.course(59), -2);
        CHECK.due("odd", x.lay(1), -2);
        CHECK.due("of before any", x.of(2), -1);
        CHECK.due("even", x.course(60), 30);
        CHECK.due("of", x.of(2), 30);
        CHECK.due("of another", x.of(3), 0);
        int[] sizes = {0, 10, -1, Integer.MIN_VALUE, Integer.MAX_VALUE};
        for (int size : sizes) {
            CHECK.due("of wrong", x.of(size), -1);
        }
        CHECK.due("nothing is taken", x.count(8), 99);
    }

    private static void latestCourse() {
        PavingTrust x = new PavingTrust();
        x.stones(4, 2);
        x.stones(3, 2);
        x.stones(5, 1);
        x.stones(1, 3);
        CHECK.due("lay before any course", x.lay(1), 1);
        CHECK.due("lay is no course()", x.of(1), -1);
        CHECK.due("5 + 3, not 4 + 4", x.course(8), 2);
        CHECK.due("more of the greatest", x.of(5) * 1000 + x.of(4) * 100 + x.of(3) * 10 + x.of(1), 1010);
        CHECK.due("not as many as there are", x.course(60), -2);
        CHECK.due("the latest not refused", x.of(5), 1);
        CHECK.due("lay", x.lay(8), 2);
        CHECK.due("taken", x.count(8), 5);
        CHECK.due("lay leaves what course() told", x.of(5), 1);
        CHECK.due("4 + 4", x.lay(8), 2);
        CHECK.due("3 + 1 + 1", x.lay(5), 3);
        CHECK.due("none left", x.lay(1), -2);
        CHECK.due("none left", x.count(8), 0);
    }

    private static void byChance() {
        Random random = new Random(3);
        for (int run = 0; run < 400; run++) {
            PavingTrust x = new PavingTrust();
            int[] stock = new int[10];
            for (int size = 1; size <= 9; size++) {
                if (random.nextInt(3) > 0) {
                    stock[size] = 1 + random.nextInt(run % 3 == 0 ? 99 : 4);
                    x.stones(size, stock[size]);
                }
            }
            for (int i = 0; i < 8; i++) {
                int w = 1 + random.nextInt(run % 3 == 0 ? 24 : 60);
                int[] best = new int[10];
                best[0] = Integer.MAX_VALUE;
                tryAll(stock, new int[10], 9, w, best);
                int due = best[0] == Integer.MAX_VALUE ? -2 : best[0];
                CHECK.due("course " + w, x.course(w), due);
                for (int size = 1; due > 0 && size <= 9; size++) {
                    CHECK.due("of " + size, x.of(size), best[size]);
                }
                CHECK.due("lay " + w, x.lay(w), due);
                int left = 0;
                for (int size = 1; size <= 9; size++) {
                    stock[size] -= due > 0 ? best[size] : 0;
                    left += stock[size];
                }
                CHECK.due("left", x.count(8), left);
            }
        }
    }

    /** All courses, those with more of the greatest size first. */
    private static void tryAll(int[] stock, int[] tried, int size, int rest, int[] best) {
        if (size == 0) {
            int n = 0;
            for (int s = 1; s <= 9; s++) {
                n += tried[s];
            }
            if (rest == 0 && n < best[0]) {
                System.arraycopy(tried, 0, best, 0, 10);
                best[0] = n;
            }
            return;
        }
        for (int n = Math.min(stock[size], rest / size); n >= 0; n--) {
            tried[size] = n;
            tryAll(stock, tried, size - 1, rest - n * size, best);
        }
    }
}
