import java.math.BigInteger;
import java.util.ArrayList;
import java.util.List;
import java.util.Random;

/** Promises 36 to 39: lots, the most that can be bad, and the counts. */
public final class MeasuresTest {
    private static final Check CHECK = new Check();
    private static final int[] EDGES = {Integer.MIN_VALUE, -1, Integer.MAX_VALUE};

    public static void main(String[] args) {
        drawRefused();
        drawByChance();
        badRefused();
        badOfAll();
        counts();
        CHECK.end();
    }

    private static void drawRefused() {
        PavingTrust x = new PavingTrust();
        CHECK.due("drawn before any", x.drawn(0), -1);
        CHECK.due("draw wrong", x.draw(0, 0, 1), -1);
        CHECK.due("drawn before any", x.drawn(0), -1);
        CHECK.due("draw one", x.draw(1, 1, Integer.MIN_VALUE), 1);
        CHECK.due("drawn one", x.drawn(0), 0);
        CHECK.due("drawn beyond", x.drawn(1), -1);
        CHECK.due("draw all", x.draw(40, 40, -7), 40);
        int seventh = x.drawn(7);
        int[][] wrong = {{0, 1}, {41, 1}, {5, 0}, {5, 6}, {40, 41}, {-1, -1}, {0, 0}};
        for (int[] w : wrong) {
            CHECK.due("draw wrong", x.draw(w[0], w[1], 3), -1);
        }
        for (int e : EDGES) {
            CHECK.due("draw edge", x.draw(e, 1, 1) + x.draw(5, e, 1), -2);
            CHECK.due("drawn edge", x.drawn(e), -1);
        }
        CHECK.due("the latest is kept", x.drawn(7), seventh);
        CHECK.due("all are drawn", x.drawn(39) >= 0 ? 1 : 0, 1);
        CHECK.due("no more", x.drawn(40), -1);
        x.draw(40, 2, 1);
        CHECK.due("fewer now", x.drawn(2), -1);
    }

    private static void drawByChance() {
        Random random = new Random(9);
        for (int run = 0; run < 500; run++) {
            PavingTrust x = new PavingTrust();
            int all = 1 + random.nextInt(40);
            int n = 1 + random.nextInt(all);
            int z = random.nextInt();
            CHECK.due("draw", x.draw(all, n, z), n);
            List<Integer> rest = new ArrayList<>();
            for (int i = 0; i < all; i++) {
                rest.add(i);
            }
            for (int i = 0; i < n; i++) {
                z = BigInteger.valueOf(z).multiply(BigInteger.valueOf(1103515245)).add(BigInteger.valueOf(12345)).intValue();
                long shifted = (z & 0xffffffffL) / 256;
                CHECK.due("drawn", x.drawn(i), rest.remove((int) (shifted % rest.size())));
            }
        }
    }

    private static void badRefused() {
        PavingTrust x = new PavingTrust();
        int[][] wrong = {{0, 0, 0, 5}, {41, 1, 0, 5}, {5, 0, 0, 5}, {5, 6, 0, 5}, {5, 3, -1, 5}, {5, 3, 4, 5}, {5, 3, 1, 0}, {5, 3, 1, 10000}};
        for (int[] w : wrong) {
            CHECK.due("bad wrong", x.bad(w[0], w[1], w[2], w[3]), -1);
        }
        for (int e : EDGES) {
            CHECK.due("bad edge", x.bad(e, 1, 0, 5) + x.bad(5, e, 0, 5) + x.bad(5, 3, e, 5) + x.bad(5, 3, 1, e), -4);
        }
        CHECK.due("half of two is enough", x.bad(2, 1, 0, 5000), 1);
        CHECK.due("half of two is too few", x.bad(2, 1, 0, 5001), 0);
        CHECK.due("all drawn are bad", x.bad(10, 4, 4, 9999), 10);
    }

    private static void badOfAll() {
        PavingTrust x = new PavingTrust();
        int[] parts = {1, 37, 500, 2500, 5000, 9999};
        for (int all = 1; all <= 40; all += all < 12 ? 1 : 7) {
            for (int n = 1; n <= all; n++) {
                for (int b = 0; b <= n; b++) {
                    for (int p : parts) {
                        CHECK.due("bad " + all + " " + n + " " + b + " " + p, x.bad(all, n, b, p), mostBad(all, n, b, p));
                    }
                }
            }
        }
    }

    private static final BigInteger[][] CHOICES = new BigInteger[41][41];

    private static BigInteger choose(int n, int k) {
        if (k < 0 || k > n) {
            return BigInteger.ZERO;
        }
        if (CHOICES[n][k] == null) {
            BigInteger ways = BigInteger.ONE;
            for (int i = 0; i < k; i++) {
                ways = ways.multiply(BigInteger.valueOf(n - i)).divide(BigInteger.valueOf(i + 1));
            }
            CHOICES[n][k] = ways;
        }
        return CHOICES[n][k];
    }

    private static int mostBad(int all, int n, int b, int p) {
        int found = -1;
        for (int bad = b; bad <= all - n + b; bad++) {
            BigInteger few = BigInteger.ZERO;
            for (int i = 0; i <= b; i++) {
                few = few.add(choose(bad, i).multiply(choose(all - bad, n - i)));
            }
            BigInteger due = choose(all, n).multiply(BigInteger.valueOf(p));
            if (few.multiply(BigInteger.valueOf(10000)).compareTo(due) >= 0) {
                found = bad;
            }
        }
        return found;
    }

    private static void counts() {
        PavingTrust x = new PavingTrust();
        x.street(2, 2, 2);
        x.street(2, 2, 2);
        x.house(1, -1, 1);
        x.house(1, -1, 1);
        x.house(1, -1, 1);
        for (int i = 0; i < 4; i++) {
            Tape.act(x, 0, 0, "1");
        }
        for (int i = 0; i < 5; i++) {
            x.open(i % 4, 0, 0, 1);
            if (i < 4) {
                x.back(i);
            }
        }
        x.open(0, 1, 0, 1);
        x.days(6);
        for (int i = 0; i < 7; i++) {
            x.year();
        }
        Tape.feed(x, "12345678");
        x.stones(4, 5);
        x.stones(9, 4);
        x.open(3, 1, 16, 1);
        int[] due = {2, 3, 4, 7, 3, 6, 7, 8, 9};
        for (int what = 0; what <= 8; what++) {
            CHECK.due("count " + what, x.count(what), due[what]);
        }
        CHECK.due("count 9", x.count(9), -1);
        for (int e : EDGES) {
            CHECK.due("count edge", x.count(e), -1);
        }
    }
}
