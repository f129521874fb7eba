import java.util.Random;

/** Promises 1 to 11: a new object, streets, heights, drains, water and levelling. */
public final class HeightsTest {
    private static final Check CHECK = new Check();
    private static final int[] EDGES = {Integer.MIN_VALUE, -17, -1, Integer.MAX_VALUE};

    public static void main(String[] args) {
        newObject();
        streets();
        heights();
        drains();
        waterByHand();
        waterByChance();
        levelByHand();
        levelRefused();
        levelByChance();
        move();
        CHECK.end();
    }

    private static void newObject() {
        PavingTrust x = new PavingTrust();
        for (int what = 0; what <= 8; what++) {
            CHECK.due("new: count " + what, x.count(what), 0);
        }
        CHECK.due("new: read", x.read(0, 0, 0), -1);
        CHECK.due("new: levelled", x.levelled(0), -1);
        CHECK.due("new: move", x.move(), -2);
        CHECK.due("new: course", x.course(1), -2);
        CHECK.due("new: of", x.of(1), -1);
        CHECK.due("new: planned", x.planned(0), -1);
        CHECK.due("new: inForce", x.inForce(0, 9999, 9999), -2);
        CHECK.due("new: rate", x.rate(0, 0, 0), PavingTrust.VOID);
        CHECK.due("new: opening", x.opening(0, 0), -2);
        CHECK.due("new: drawn", x.drawn(0), -1);
    }

    private static void streets() {
        PavingTrust x = new PavingTrust();
        int[][] wrong = {{0, 1, 1}, {17, 1, 1}, {1, 0, 1}, {1, 10, 1}, {1, 1, -1}, {1, 1, 100},
            {Integer.MIN_VALUE, 1, 1}, {1, Integer.MAX_VALUE, 1}, {1 << 16, 1 << 16, 0}};
        for (int[] w : wrong) {
            CHECK.due("street wrong", x.street(w[0], w[1], w[2]), -1);
        }
        CHECK.due("none made", x.count(0), 0);
        CHECK.due("street least", x.street(1, 1, 0), 0);
        CHECK.due("street greatest", x.street(16, 9, 99), 1);
        CHECK.due("height least", x.read(0, 0, 0), 0);
        for (int i = 0; i < 144; i++) {
            CHECK.due("height greatest", x.read(1, i / 9, i % 9), 99);
        }
        for (int i = 2; i < 8; i++) {
            CHECK.due("street " + i, x.street(2, 3, i), i);
        }
        CHECK.due("eight", x.count(0), 8);
        CHECK.due("street full", x.street(2, 3, 4), -3);
        CHECK.due("street wrong ahead of full", x.street(0, 3, 4), -1);
        CHECK.due("still eight", x.count(0), 8);
        CHECK.due("the last one", x.read(7, 1, 2), 7);
        CHECK.due("none behind the last one", x.read(8, 0, 0), -1);
    }

    private static void heights() {
        PavingTrust x = new PavingTrust();
        x.street(3, 4, 50);
        CHECK.due("height", x.height(0, 2, 3, 7), 50);
        CHECK.due("height again", x.height(0, 2, 3, 99), 7);
        CHECK.due("height least", x.height(0, 2, 3, 0), 99);
        CHECK.due("read", x.read(0, 2, 3), 0);
        CHECK.due("read other", x.read(0, 2, 2), 50);
        CHECK.due("height too great", x.height(0, 2, 3, 100), -1);
        CHECK.due("height too small", x.height(0, 2, 3, -1), -1);
        int[][] none = {{1, 0, 0}, {-1, 0, 0}, {0, 3, 0}, {0, -1, 0}, {0, 0, 4}, {0, 0, -1}, {0, 1, -1}};
        for (int[] n : none) {
            CHECK.due("height none", x.height(n[0], n[1], n[2], 1), -1);
            CHECK.due("read none", x.read(n[0], n[1], n[2]), -1);
            CHECK.due("drain none", x.drain(n[0], n[1], n[2], 1), -1);
            CHECK.due("water none", x.water(n[0], n[1], n[2]), -1);
        }
        for (int e : EDGES) {
            CHECK.due("read edge", x.read(e, 0, 0) + x.read(0, e, 0) + x.read(0, 0, e), -3);
            CHECK.due("height edge", x.height(e, 0, 0, 1) + x.height(0, e, 0, 1) + x.height(0, 0, e, 1) + x.height(0, 0, 0, e), -4);
        }
        CHECK.due("unchanged", x.read(0, 2, 3), 0);
    }

    private static void drains() {
        PavingTrust x = new PavingTrust();
        x.street(2, 2, 5);
        CHECK.due("drain", x.drain(0, 1, 1, 1), 0);
        CHECK.due("drain again", x.drain(0, 1, 1, 1), 1);
        CHECK.due("drain 2", x.drain(0, 1, 1, 2), -1);
        CHECK.due("drain -1", x.drain(0, 1, 1, -1), -1);
        CHECK.due("drain away", x.drain(0, 1, 1, 0), 1);
        CHECK.due("drain was away", x.drain(0, 1, 1, 0), 0);
    }

    private static void waterByHand() {
        PavingTrust x = new PavingTrust();
        x.street(3, 3, 5);
        CHECK.due("flat stays", x.water(0, 1, 1), 17);
        CHECK.due("flat most", x.most(0), 1);
        CHECK.due("flat standing", x.standing(0), 9);
        x.height(0, 2, 1, 3);
        CHECK.due("row behind", x.water(0, 1, 1), 33);
        x.height(0, 1, 2, 3);
        CHECK.due("column behind before row behind", x.water(0, 1, 1), 18);
        x.height(0, 1, 0, 3);
        CHECK.due("column ahead before column behind", x.water(0, 1, 1), 16);
        x.height(0, 0, 1, 3);
        CHECK.due("row ahead before all", x.water(0, 1, 1), 1);
        x.height(0, 2, 1, 2);
        CHECK.due("the lowest before the order", x.water(0, 1, 1), 33);
        x.drain(0, 2, 1, 1);
        CHECK.due("to a drain", x.water(0, 1, 1), 1033);
        CHECK.due("from a drain", x.water(0, 2, 1), 1033);
        x.drain(0, 1, 1, 1);
        CHECK.due("a drain goes on no more", x.water(0, 1, 1), 1017);
        CHECK.due("street none", x.standing(1), -1);
        CHECK.due("street none", x.most(1), -1);
        for (int e : EDGES) {
            CHECK.due("street edge", x.standing(e) + x.most(e), -2);
        }
        CHECK.due("one square", x.street(1, 1, 0), 1);
        CHECK.due("one square stands", x.standing(1), 1);
        x.drain(1, 0, 0, 1);
        CHECK.due("one square runs", x.standing(1), 0);
        CHECK.due("one square counted", x.most(1), 1);
        longWay();
    }

    /** A slope that turns at each row, so that one drop of water passes some eighty squares. */
    private static void longWay() {
        PavingTrust x = new PavingTrust();
        x.street(16, 9, 99);
        int h = 0;
        for (int row = 0; row < 16 && h < 99; row += 2) {
            for (int i = 0; i < 9 && h < 99; i++) {
                x.height(0, row, row % 4 == 0 ? i : 8 - i, h++);
            }
            if (row + 1 < 16 && h < 99) {
                x.height(0, row + 1, row % 4 == 0 ? 8 : 0, h++);
            }
        }
        CHECK.due("long way from beside it", x.water(0, 15, 8), 0);
        CHECK.due("long way from its top", x.water(0, 14, 0), 0);
        int stands = 0;
        for (int i = 0; i < 144; i++) {
            stands += x.water(0, i / 9, i % 9) == 0 ? 1 : 0;
        }
        CHECK.due("long way most", x.most(0), stands);
    }

    private static void waterByChance() {
        Random random = new Random(1);
        for (int run = 0; run < 300; run++) {
            PavingTrust x = new PavingTrust();
            int rows = 1 + random.nextInt(16);
            int columns = 1 + random.nextInt(9);
            int[][] h = new int[rows][columns];
            boolean[][] d = new boolean[rows][columns];
            x.street(rows, columns, 0);
            int range = 2 + random.nextInt(98);
            for (int r = 0; r < rows; r++) {
                for (int c = 0; c < columns; c++) {
                    h[r][c] = random.nextInt(range);
                    d[r][c] = random.nextInt(10) == 0;
                    x.height(0, r, c, h[r][c]);
                    x.drain(0, r, c, d[r][c] ? 1 : 0);
                }
            }
            int[][] through = new int[rows][columns];
            int standing = 0;
            for (int r = 0; r < rows; r++) {
                for (int c = 0; c < columns; c++) {
                    int end = flow(h, d, r, c, through);
                    standing += end < 1000 ? 1 : 0;
                    CHECK.due("water", x.water(0, r, c), end);
                }
            }
            int most = 0;
            for (int[] row : through) {
                for (int n : row) {
                    most = Math.max(most, n);
                }
            }
            CHECK.due("standing", x.standing(0), standing);
            CHECK.due("most", x.most(0), most);
        }
    }

    private static int flow(int[][] h, boolean[][] d, int row, int column, int[][] through) {
        int[][] steps = {{-1, 0}, {0, -1}, {0, 1}, {1, 0}};
        int r = row;
        int c = column;
        while (true) {
            through[r][c]++;
            if (d[r][c]) {
                return 1000 + 16 * r + c;
            }
            int low = 1000;
            int to = -1;
            for (int i = 0; i < 4; i++) {
                int a = r + steps[i][0];
                int b = c + steps[i][1];
                if (a >= 0 && a < h.length && b >= 0 && b < h[0].length && h[a][b] < low) {
                    low = h[a][b];
                    to = i;
                }
            }
            if (low >= h[r][c]) {
                return 16 * r + c;
            }
            r += steps[to][0];
            c += steps[to][1];
        }
    }

    private static void levelByHand() {
        PavingTrust x = new PavingTrust();
        x.street(2, 3, 10);
        CHECK.due("level flat", x.level(0, 1, 1, 0), 0);
        CHECK.due("level to a kennel", x.level(0, 1, 1, 11), 1);
        CHECK.due("left", x.levelled(0), 10);
        CHECK.due("kennel", x.levelled(1), 9);
        CHECK.due("right", x.levelled(2), 10);
        CHECK.due("column beyond", x.levelled(3), -1);
        CHECK.due("column ahead", x.levelled(-1), -1);
        CHECK.due("nothing is moved yet", x.read(0, 1, 1), 10);
        CHECK.due("level to the end", x.level(0, 0, 2, 11), 2);
        CHECK.due("falls to the end", x.levelled(0) * 10000 + x.levelled(1) * 100 + x.levelled(2), 111009);
        x.street(1, 2, 5);
        x.height(1, 0, 1, 3);
        CHECK.due("the less of several", x.level(1, 0, 0, 0), 2);
        CHECK.due("the less of several", x.levelled(0), 3);
        CHECK.due("no third column", x.levelled(2), -1);
        x.street(1, 9, 0);
        CHECK.due("steepest", x.level(2, 0, 0, 99), 9 * 36);
        CHECK.due("steepest end", x.levelled(8), 72);
        CHECK.due("steepest other way", x.level(2, 0, 8, 99), 9 * 36);
        CHECK.due("steepest other end", x.levelled(0), 72);
        x.street(1, 1, 99);
        CHECK.due("one column", x.level(3, 0, 0, 9), 0);
        CHECK.due("one column", x.levelled(0), 99);
    }

    private static void levelRefused() {
        PavingTrust x = new PavingTrust();
        x.street(2, 3, 10);
        CHECK.due("level", x.level(0, 1, 1, 12), 1);
        int[][] wrong = {{1, 0, 0, 12}, {-1, 0, 0, 12}, {0, 2, 0, 12}, {0, -1, 0, 12}, {0, 0, 3, 12}, {0, 0, -1, 12},
            {0, 0, 0, -1}, {0, 0, 0, 100}, {0, 0, 0, 10}, {0, 0, 0, 98}, {0, 0, 0, 21}, {0, 0, 0, Integer.MIN_VALUE},
            {0, 0, 0, Integer.MAX_VALUE}, {Integer.MAX_VALUE, 0, 0, 12}, {0, Integer.MIN_VALUE, 0, 12}};
        for (int[] w : wrong) {
            CHECK.due("level wrong", x.level(w[0], w[1], w[2], w[3]), -1);
        }
        CHECK.due("the latest that was not refused", x.levelled(1), 9);
        for (int e : EDGES) {
            CHECK.due("levelled edge", x.levelled(e), -1);
        }
        CHECK.due("moved", x.move(), 1);
    }

    private static void levelByChance() {
        Random random = new Random(2);
        for (int run = 0; run < 400; run++) {
            PavingTrust x = new PavingTrust();
            int columns = 1 + random.nextInt(9);
            int[] old = new int[columns];
            x.street(1, columns, 0);
            int base = random.nextInt(100);
            int range = 1 + random.nextInt(100 - base);
            for (int c = 0; c < columns; c++) {
                old[c] = base + random.nextInt(range);
                x.height(0, 0, c, old[c]);
            }
            int kennel = random.nextInt(columns);
            int f = random.nextInt(10);
            // few columns with all widths of falls, many with narrow ones: all levellings are tried
            int[] widest = {10, 10, 10, 10, 6, 4, 3, 3, 2};
            int s = Math.min(9, f + random.nextInt(widest[columns - 1]));
            int[] best = new int[columns + 1];
            best[columns] = Integer.MAX_VALUE;
            int[] tried = new int[columns];
            for (int h = 0; h <= 99; h++) {
                tried[kennel] = h;
                tryLeft(old, tried, kennel, kennel - 1, f, s, best);
            }
            CHECK.due("level " + run, x.level(0, 0, kennel, 10 * f + s), best[columns]);
            for (int c = 0; c < columns; c++) {
                CHECK.due("levelled " + run, x.levelled(c), best[c]);
            }
            CHECK.due("move " + run, x.move(), best[columns]);
            for (int c = 0; c < columns; c++) {
                CHECK.due("moved " + run, x.read(0, 0, c), best[c]);
            }
        }
    }

    private static void tryLeft(int[] old, int[] tried, int kennel, int column, int f, int s, int[] best) {
        if (column < 0) {
            tryRight(old, tried, kennel + 1, f, s, best);
            return;
        }
        for (int fall = f; fall <= s; fall++) {
            tried[column] = tried[column + 1] + fall;
            tryLeft(old, tried, kennel, column - 1, f, s, best);
        }
    }

    private static void tryRight(int[] old, int[] tried, int column, int f, int s, int[] best) {
        if (column == old.length) {
            judge(old, tried, best);
            return;
        }
        for (int fall = f; fall <= s; fall++) {
            tried[column] = tried[column - 1] + fall;
            tryRight(old, tried, column + 1, f, s, best);
        }
    }

    private static void judge(int[] old, int[] tried, int[] best) {
        int n = old.length;
        int earth = 0;
        for (int c = 0; c < n; c++) {
            if (tried[c] > 99) {
                return;
            }
            earth += Math.abs(tried[c] - old[c]);
        }
        boolean better = earth < best[n];
        if (earth == best[n]) {
            int c = 0;
            while (c < n && tried[c] == best[c]) {
                c++;
            }
            better = c < n && tried[c] < best[c];
        }
        if (better) {
            System.arraycopy(tried, 0, best, 0, n);
            best[n] = earth;
        }
    }

    private static void move() {
        PavingTrust x = new PavingTrust();
        x.street(2, 3, 10);
        CHECK.due("level", x.level(0, 1, 1, 12), 1);
        x.height(0, 1, 0, 11);
        CHECK.due("a height is not what it was", x.move(), -2);
        CHECK.due("the levelling stays", x.levelled(0), 10);
        x.height(0, 1, 0, 10);
        x.height(0, 0, 0, 77);
        x.drain(0, 1, 0, 1);
        CHECK.due("as it was again", x.move(), 1);
        CHECK.due("moved", x.read(0, 1, 1), 9);
        CHECK.due("other row", x.read(0, 0, 0), 77);
        CHECK.due("other row", x.read(0, 0, 1), 10);
        CHECK.due("told no more", x.levelled(0), -1);
        CHECK.due("moved once", x.move(), -2);
        CHECK.due("level again", x.level(0, 1, 1, 12), 0);
        CHECK.due("told again", x.levelled(1), 9);
        CHECK.due("no earth", x.move(), 0);
        CHECK.due("moved once", x.move(), -2);
        x.street(1, 2, 4);
        x.level(0, 0, 0, 0);
        x.level(1, 0, 0, 11);
        CHECK.due("the latest street", x.levelled(2), -1);
        CHECK.due("the latest", x.move(), 1);
        CHECK.due("not the former", x.read(0, 0, 0), 77);
        CHECK.due("the latest", x.read(1, 0, 0) * 100 + x.read(1, 0, 1), 304);
    }
}
