/** The sentences on streets, water and levelling that name a boundary: promises 1 to 11. */
public final class HeightsEdgesTest {
    private static final Sentences S = new Sentences();
    private static final int BAD = PavingTrust.BAD, NOT = PavingTrust.NOT, FULL = PavingTrust.FULL;

    public static void main(String[] args) {
        eightStreets();
        rows();
        columns();
        heights();
        noDrainsAtFirst();
        drainKeepsWater();
        onlySidesAreShared();
        onlyIfLower();
        orderOfSeveral();
        runsOrStands();
        fallsAsSaid();
        newHeightsWithin();
        fallAtLeastAndAtMost();
        earthWithoutSign();
        leastMoved();
        lessAtTheFirstColumn();
        neverNone();
        newObject();
        streetRefused();
        heightRefused();
        readRefused();
        drainRefused();
        waterAnswers();
        standingAnswers();
        mostAnswers();
        levelFalls();
        levelMovesNothing();
        levelRefused();
        levelledLatest();
        levelledRefused();
        moveToldNoMore();
        moveWithoutLevelling();
        moveWhenChanged();
        S.end(1, 11);
    }

    private static PavingTrust with(int rows, int columns, int h) {
        PavingTrust x = new PavingTrust();
        x.street(rows, columns, h);
        return x;
    }

    /** A street of one row. */
    private static PavingTrust row(int... heights) {
        PavingTrust x = with(1, heights.length, 0);
        for (int c = 0; c < heights.length; c++) {
            x.height(0, 0, c, heights[c]);
        }
        return x;
    }

    private static void levels(PavingTrust x, int kennel, int falls, int earth, int... heights) {
        S.due("level", x.level(0, 0, kennel, falls), earth);
        for (int c = 0; c < heights.length; c++) {
            S.due("levelled(" + c + ")", x.levelled(c), heights[c]);
        }
    }

    private static void eightStreets() {
        S.terms("STREETS 0 ..");
        S.terms("7, as they were made");
        PavingTrust x = new PavingTrust();
        for (int i = 0; i < 8; i++) {
            S.due("not made yet", x.read(i, 0, 0), BAD);
            S.due("street", x.street(1, 1, 10 + i), i);
        }
        S.due("a ninth", x.street(1, 1, 18), FULL);
        S.due("street 8", x.read(8, 0, 0), BAD);
        S.due("street -1", x.read(-1, 0, 0), BAD);
        for (int i = 0; i < 8; i++) {
            S.due("as they were made", x.read(i, 0, 0), 10 + i);
        }
        S.due("streets", x.count(0), 8);
    }

    private static void rows() {
        S.terms("ROWS 0 .. n - 1 (n 1 .. 16) of SQUARES");
        PavingTrust x = new PavingTrust();
        for (int n : Sentences.outside(1, 16)) {
            S.due(n + " rows", x.street(n, 1, 5), BAD);
        }
        S.due("none made", x.count(0), 0);
        S.due("one row", x.street(1, 1, 5), 0);
        S.due("row 0 of 1", x.read(0, 0, 0), 5);
        S.due("row 1 of 1", x.read(0, 1, 0), BAD);
        S.due("sixteen rows", x.street(16, 1, 5), 1);
        S.due("row 15 of 16", x.read(1, 15, 0), 5);
        S.due("row 16 of 16", x.read(1, 16, 0), BAD);
        S.due("row -1", x.read(1, -1, 0), BAD);
    }

    private static void columns() {
        S.terms("columns 0 .. m - 1 (m 1 .. 9)");
        PavingTrust x = new PavingTrust();
        for (int m : Sentences.outside(1, 9)) {
            S.due(m + " columns", x.street(1, m, 5), BAD);
        }
        S.due("none made", x.count(0), 0);
        S.due("one column", x.street(2, 1, 5), 0);
        S.due("column 0 of 1", x.read(0, 1, 0), 5);
        S.due("column 1 of 1 is not the next row's", x.read(0, 0, 1), BAD);
        S.due("nine columns", x.street(2, 9, 5), 1);
        S.due("column 8 of 9", x.read(1, 1, 8), 5);
        S.due("column 9 of 9 is not the next row's", x.read(1, 0, 9), BAD);
        S.due("column -1 is not the former row's", x.read(1, 1, -1), BAD);
    }

    private static void heights() {
        S.terms("each with a HEIGHT (0 .. 99)");
        PavingTrust x = new PavingTrust();
        for (int h : Sentences.outside(0, 99)) {
            S.due("street of height " + h, x.street(1, 1, h), BAD);
        }
        S.due("none made", x.count(0), 0);
        S.due("street of height 0", x.street(1, 1, 0), 0);
        S.due("street of height 99", x.street(1, 1, 99), 1);
        for (int h : Sentences.outside(0, 99)) {
            S.due("height " + h, x.height(0, 0, 0, h), BAD);
            S.due("as it was", x.read(0, 0, 0), 0);
        }
        S.due("from 0 to 99", x.height(0, 0, 0, 99), 0);
        S.due("from 99 to 0", x.height(0, 0, 0, 0), 99);
        S.due("0 again", x.read(0, 0, 0), 0);
    }

    private static void noDrainsAtFirst() {
        S.terms("Some SQUARES are DRAINS (told; none at first).");
        PavingTrust x = with(16, 9, 50);
        for (int at = 0; at < 144; at++) {
            S.due("no drain yet", x.water(0, at / 9, at % 9), 16 * (at / 9) + at % 9);
            S.due("was none", x.drain(0, at / 9, at % 9, 1), 0);
        }
        S.due("all are drains now", x.standing(0), 0);
    }

    private static void drainKeepsWater() {
        S.terms("WATER on a SQUARE that is no DRAIN goes on");
        PavingTrust x = row(0, 99);
        S.due("no drain", x.water(0, 0, 1), 0);
        x.drain(0, 0, 1, 1);
        S.due("a drain", x.water(0, 0, 1), 1001);
        x.drain(0, 0, 1, 0);
        S.due("no drain any more", x.water(0, 0, 1), 0);
    }

    private static void onlySidesAreShared() {
        S.terms("its four neighbours (the SQUARES that share a side)");
        PavingTrust x = with(3, 3, 5);
        for (int corner = 0; corner < 4; corner++) {
            x.height(0, corner / 2 * 2, corner % 2 * 2, 0);
        }
        S.due("not over corners", x.water(0, 1, 1), 17);
        x.street(2, 3, 5);
        x.height(1, 1, 0, 0);
        S.due("not from a row's end to the next one's beginning", x.water(1, 0, 2), 2);
        x.height(1, 1, 0, 5);
        x.height(1, 0, 2, 0);
        S.due("not from a row's beginning to the former one's end", x.water(1, 1, 0), 16);
        x.street(3, 1, 5);
        x.height(2, 2, 0, 0);
        S.due("not from the first row to the last one", x.water(2, 0, 0), 0);
        x.height(2, 2, 0, 5);
        x.height(2, 0, 0, 0);
        S.due("not from the last row to the first one", x.water(2, 2, 0), 32);
        x.street(1, 3, 5);
        x.height(3, 0, 2, 0);
        S.due("not from the first column to the last one", x.water(3, 0, 0), 0);
        x.height(3, 0, 2, 5);
        x.height(3, 0, 0, 0);
        S.due("not from the last column to the first one", x.water(3, 0, 2), 2);
    }

    private static void onlyIfLower() {
        S.terms("the lowest of its four neighbours (the SQUARES that share a side), if that is lower than it is");
        S.due("as high", row(5, 5).water(0, 0, 1), 1);
        S.due("lower by one", row(4, 5).water(0, 0, 1), 0);
        S.due("higher by one", row(6, 5).water(0, 0, 1), 1);
        S.due("the least height", row(0, 0).water(0, 0, 1), 1);
        S.due("the greatest height", row(99, 99).water(0, 0, 1), 1);
        S.due("the lowest, not the first that is lower", row(4, 5, 3).water(0, 0, 1), 2);
        S.due("no neighbour at all", row(5).water(0, 0, 0), 0);
    }

    private static void orderOfSeveral() {
        S.terms("of several in this order: the ROW ahead (lesser), the column ahead, the column behind, the ROW behind.");
        int[] order = {1, 16, 18, 33};
        for (int low = 1; low < 16; low++) {
            PavingTrust x = with(3, 3, 5);
            int first = -1;
            for (int i = 3; i >= 0; i--) {
                if ((low >> i & 1) == 1) {
                    x.height(0, order[i] / 16, order[i] % 16, 4);
                    first = order[i];
                }
            }
            S.due("lower ones " + low, x.water(0, 1, 1), first);
        }
    }

    private static void runsOrStands() {
        S.terms("It RUNS if it so comes to a DRAIN, else it STANDS where it goes on no more.");
        PavingTrust x = row(1, 2, 3, 2, 1);
        x.drain(0, 0, 0, 1);
        S.due("runs", x.water(0, 0, 2), 1000);
        S.due("stands", x.water(0, 0, 3), 4);
        S.due("stand", x.standing(0), 2);
        x.drain(0, 0, 1, 1);
        S.due("it comes to the first drain on its way", x.water(0, 0, 2), 1001);
        longestWay();
    }

    /** A way down and up the even columns from the first square to the last: 84 squares, the others at 99. */
    private static void longestWay() {
        PavingTrust x = with(16, 9, 99);
        int h = 84;
        for (int c = 0; c < 9; c++) {
            for (int r = 0; r < 16; r++) {
                int row = c % 4 == 2 ? 15 - r : r;
                boolean isLink = c % 4 == 1 ? r == 15 : r == 0;
                if (c % 2 == 0 || isLink) {
                    x.height(0, row, c, --h);
                }
            }
        }
        S.due("all the way", x.water(0, 0, 0), 248);
        S.due("all stand", x.standing(0), 144);
        S.due("all come to its end", x.most(0), 144);
        x.drain(0, 15, 8, 1);
        S.due("all the way to a drain", x.water(0, 0, 0), 1248);
        S.due("all run", x.standing(0), 0);
        x.drain(0, 0, 8, 1);
        S.due("a drain stops all but the last column and its wall", x.most(0), 144 - 15 - 15);
    }

    private static void fallsAsSaid() {
        S.terms("with falls from f to s (0 <= f <= s <= 9)");
        PavingTrust x = row(5, 5);
        for (int f = 0; f <= 9; f++) {
            for (int s = 0; s <= 9; s++) {
                S.due("falls " + f + " to " + s, x.level(0, 0, 0, 10 * f + s), f > s ? BAD : f);
            }
        }
    }

    private static void newHeightsWithin() {
        S.terms("new HEIGHTS (0 .. 99) such that");
        levels(row(0, 0, 0), 0, 99, 27, 0, 9, 18);
        levels(row(0, 0, 0), 2, 99, 27, 18, 9, 0);
        levels(row(99, 99, 99), 0, 99, 27, 81, 90, 99);
        levels(row(99, 99, 99), 2, 99, 27, 99, 90, 81);
        levels(row(99, 99, 99, 99, 99, 99, 99, 99, 99), 0, 99, 324, 27, 36, 45, 54, 63, 72, 81, 90, 99);
        levels(row(0, 0, 0, 0, 0, 0, 0, 0, 0), 8, 99, 324, 72, 63, 54, 45, 36, 27, 18, 9, 0);
    }

    private static void fallAtLeastAndAtMost() {
        S.terms("each column between k and an end is higher than its neighbour on the side of k by f at least and s at most");
        levels(row(10, 12), 0, 35, 1, 9, 12);
        levels(row(10, 13), 0, 35, 0, 10, 13);
        levels(row(10, 15), 0, 35, 0, 10, 15);
        levels(row(10, 16), 0, 35, 1, 10, 15);
        levels(row(12, 10), 1, 35, 1, 12, 9);
        levels(row(13, 10), 1, 35, 0, 13, 10);
        levels(row(15, 10), 1, 35, 0, 15, 10);
        levels(row(16, 10), 1, 35, 1, 15, 10);
        levels(row(13, 10, 15), 1, 35, 0, 13, 10, 15);
        levels(row(10, 11), 0, 0, 1, 10, 10);
        levels(row(42), 0, 99, 0, 42);
    }

    private static void earthWithoutSign() {
        S.terms("moved earth is the sum of what each HEIGHT changes, without sign");
        levels(row(10, 20, 30), 1, 0, 20, 20, 20, 20);
        levels(row(0, 99), 0, 0, 99, 0, 0);
        levels(row(99, 0), 0, 0, 99, 0, 0);
    }

    private static void leastMoved() {
        S.terms("Of all such the least moved;");
        levels(row(10, 10, 40), 0, 0, 30, 10, 10, 10);
        levels(row(10, 40, 40), 0, 0, 30, 40, 40, 40);
        levels(row(40, 10, 40), 1, 9, 21, 40, 31, 40);
        levels(row(0, 99), 0, 9, 90, 0, 9);
        levels(row(0, 99), 1, 9, 99, 0, 0);
        levels(row(0, 99), 1, 99, 108, 9, 0);
    }

    private static void lessAtTheFirstColumn() {
        S.terms("of several the one that is less at the first column where they differ.");
        levels(row(5, 3), 0, 0, 2, 3, 3);
        levels(row(3, 5), 1, 0, 2, 3, 3);
        levels(row(10, 20), 0, 5, 5, 10, 15);
        levels(row(20, 10), 1, 5, 5, 15, 10);
        levels(row(9, 9), 1, 11, 1, 9, 8);
        levels(row(50, 50, 60, 50), 0, 9, 10, 50, 50, 50, 50);
    }

    private static void neverNone() {
        S.terms("None, if there are no such HEIGHTS.");
        int[][] patterns = {{0, 0}, {99, 99}, {0, 99}, {99, 0}};
        for (int m = 1; m <= 9; m++) {
            for (int k = 0; k < m; k++) {
                for (int[] p : patterns) {
                    int[] heights = new int[m];
                    for (int c = 0; c < m; c++) {
                        heights[c] = p[c % 2];
                    }
                    allFalls(row(heights), heights, k);
                }
            }
        }
    }

    /** Even eight falls of 9 fit into 0 .. 99, so there are such heights for all falls. */
    private static void allFalls(PavingTrust x, int[] old, int k) {
        for (int falls = 0; falls <= 99; falls++) {
            int f = falls / 10;
            int s = falls % 10;
            if (f > s) {
                continue;
            }
            int earth = x.level(0, 0, k, falls);
            int moved = 0;
            boolean fits = true;
            for (int c = 0; c < old.length; c++) {
                int h = x.levelled(c);
                int fall = c < k ? h - x.levelled(c + 1) : c > k ? h - x.levelled(c - 1) : s;
                fits &= h >= 0 && h <= 99 && fall >= f && fall <= s;
                moved += Math.abs(h - old[c]);
            }
            S.holds("such heights for falls " + falls, fits);
            S.due("their earth", earth, moved);
        }
    }

    private static void newObject() {
        S.promise(1, "No streets, no houses, no acts, an empty YARD.");
        PavingTrust x = new PavingTrust();
        for (int what = 0; what <= 8; what++) {
            S.due("count(" + what + ")", x.count(what), 0);
        }
        S.due("no street", x.standing(0), BAD);
        S.due("no house", x.rate(0, 0, 0), PavingTrust.VOID);
        S.due("no act", x.inForce(0, 9999, 9999), NOT);
        S.due("no act", x.inForce(1, 9999, 9999), NOT);
        for (int w = 1; w <= 60; w++) {
            S.due("an empty yard", x.course(w), NOT);
        }
        S.due("an empty tape", x.act(0, 0), -100);
    }

    private static void streetRefused() {
        S.promise(2, "BAD, FULL.");
        PavingTrust x = new PavingTrust();
        for (int i = 0; i < 8; i++) {
            x.street(1, 1, 1);
        }
        S.due("full", x.street(16, 9, 99), FULL);
        S.due("BAD is named first", x.street(0, 1, 1), BAD);
        S.due("BAD is named first", x.street(1, 10, 1), BAD);
        S.due("BAD is named first", x.street(1, 1, 100), BAD);
        S.due("still eight", x.count(0), 8);
    }

    private static void heightRefused() {
        S.promise(3, "HEIGHT of a SQUARE becomes h: what it was. BAD.");
        PavingTrust x = with(3, 4, 50);
        for (int n : Sentences.outside(0, 0)) {
            S.due("street " + n, x.height(n, 0, 0, 1), BAD);
        }
        for (int n : Sentences.outside(0, 2)) {
            S.due("row " + n, x.height(0, n, 0, 1), BAD);
        }
        for (int n : Sentences.outside(0, 3)) {
            S.due("column " + n, x.height(0, 0, n, 1), BAD);
        }
        for (int at = 0; at < 12; at++) {
            S.due("what it was", x.height(0, at / 4, at % 4, at), 50);
            S.due("the same again", x.height(0, at / 4, at % 4, at), at);
        }
    }

    private static void readRefused() {
        S.promise(4, "HEIGHT of a SQUARE. BAD.");
        PavingTrust x = with(3, 4, 50);
        for (int n : Sentences.outside(0, 0)) {
            S.due("street " + n, x.read(n, 0, 0), BAD);
        }
        for (int n : Sentences.outside(0, 2)) {
            S.due("row " + n, x.read(0, n, 0), BAD);
        }
        for (int n : Sentences.outside(0, 3)) {
            S.due("column " + n, x.read(0, 0, n), BAD);
        }
        S.due("the last square", x.read(0, 2, 3), 50);
    }

    private static void drainRefused() {
        S.promise(5, "A SQUARE is a DRAIN (1) or not (0): what it was. BAD.");
        PavingTrust x = with(3, 4, 50);
        for (int n : Sentences.outside(0, 1)) {
            S.due("is " + n, x.drain(0, 0, 0, n), BAD);
        }
        for (int n : Sentences.outside(0, 0)) {
            S.due("street " + n, x.drain(n, 0, 0, 1), BAD);
        }
        for (int n : Sentences.outside(0, 2)) {
            S.due("row " + n, x.drain(0, n, 0, 1), BAD);
        }
        for (int n : Sentences.outside(0, 3)) {
            S.due("column " + n, x.drain(0, 0, n, 1), BAD);
        }
        S.due("none was made", x.standing(0), 12);
        S.due("was not", x.drain(0, 2, 3, 1), 0);
        S.due("was", x.drain(0, 2, 3, 1), 1);
        S.due("was", x.drain(0, 2, 3, 0), 1);
        S.due("was not", x.drain(0, 2, 3, 0), 0);
    }

    private static void waterAnswers() {
        S.promise(6, "16 times the ROW, and the column; 1000 more if that is a DRAIN. BAD.");
        PavingTrust x = with(16, 9, 7);
        S.due("the first square", x.water(0, 0, 0), 0);
        S.due("the last square", x.water(0, 15, 8), 248);
        x.drain(0, 0, 0, 1);
        x.drain(0, 15, 8, 1);
        S.due("the first square, a drain", x.water(0, 0, 0), 1000);
        S.due("the last square, a drain", x.water(0, 15, 8), 1248);
        S.due("the end of a row", x.water(0, 0, 8), 8);
        S.due("the beginning of a row", x.water(0, 1, 0), 16);
        for (int n : Sentences.outside(0, 0)) {
            S.due("street " + n, x.water(n, 0, 0), BAD);
        }
        for (int n : Sentences.outside(0, 15)) {
            S.due("row " + n, x.water(0, n, 0), BAD);
        }
        for (int n : Sentences.outside(0, 8)) {
            S.due("column " + n, x.water(0, 0, n), BAD);
        }
    }

    private static void standingAnswers() {
        S.promise(7, "From how many SQUARES it does not RUN. BAD.");
        PavingTrust x = with(16, 9, 7);
        for (int n : Sentences.outside(0, 0)) {
            S.due("street " + n, x.standing(n), BAD);
        }
        S.due("none runs", x.standing(0), 144);
        x.drain(0, 7, 4, 1);
        S.due("a drain itself runs", x.standing(0), 143);
        x.height(0, 7, 4, 6);
        S.due("its four neighbours too", x.standing(0), 139);
        slope(x);
        x.drain(0, 7, 4, 0);
        S.due("all stand at one", x.standing(0), 144);
        x.drain(0, 0, 0, 1);
        S.due("all run to one", x.standing(0), 0);
        PavingTrust y = row(5, 4);
        y.drain(0, 0, 1, 1);
        S.due("the first square runs too", y.standing(0), 0);
        S.due("and is counted", y.most(0), 2);
    }

    /** All water of street 0 goes to its first square. */
    private static void slope(PavingTrust x) {
        for (int at = 0; at < 144; at++) {
            x.height(0, at / 9, at % 9, at / 9 + at % 9);
        }
    }

    private static void mostAnswers() {
        S.promise(8, "The greatest number of SQUARES from which WATER comes to one SQUARE (it counted). BAD.");
        PavingTrust x = with(16, 9, 7);
        for (int n : Sentences.outside(0, 0)) {
            S.due("street " + n, x.most(n), BAD);
        }
        S.due("itself alone", x.most(0), 1);
        x.height(0, 0, 0, 6);
        S.due("a corner of the street", x.most(0), 3);
        x.height(0, 7, 4, 6);
        S.due("inside of the street", x.most(0), 5);
        slope(x);
        S.due("all", x.most(0), 144);
        x.drain(0, 0, 0, 1);
        S.due("all to a drain", x.most(0), 144);
        x.drain(0, 0, 1, 1);
        // equal ways go to the row ahead, so all columns but the first pass that drain
        S.due("a drain keeps what comes to it", x.most(0), 128);
        S.due("one square", with(1, 1, 0).most(0), 1);
    }

    private static void levelFalls() {
        S.promise(9, "falls: 10 times f, and s. BAD. NOT: none.");
        PavingTrust x = row(10, 10);
        S.due("0 to 0", x.level(0, 0, 0, 0), 0);
        S.due("0 to 9", x.level(0, 0, 0, 9), 0);
        S.due("9 to 9", x.level(0, 0, 0, 99), 9);
        S.due("1 to 2", x.level(0, 0, 0, 12), 1);
        S.due("1 to 0", x.level(0, 0, 0, 10), BAD);
        S.due("9 to 8", x.level(0, 0, 0, 98), BAD);
        for (int n : Sentences.outside(0, 99)) {
            S.due("falls " + n, x.level(0, 0, 0, n), BAD);
        }
        S.due("f above 9", x.level(0, 0, 0, 109), BAD);
        S.due("both below 0", x.level(0, 0, 0, -11), BAD);
    }

    private static void levelMovesNothing() {
        S.promise(9, "LEVELLING: the moved earth; nothing is moved yet.");
        PavingTrust x = row(10, 30);
        S.due("level", x.level(0, 0, 0, 0), 20);
        S.due("as it was", x.read(0, 0, 0), 10);
        S.due("as it was", x.read(0, 0, 1), 30);
        S.due("the same again", x.level(0, 0, 0, 0), 20);
    }

    private static void levelRefused() {
        S.promise(9, "BAD. NOT: none.");
        PavingTrust x = with(3, 4, 50);
        for (int n : Sentences.outside(0, 0)) {
            S.due("street " + n, x.level(n, 0, 0, 12), BAD);
        }
        for (int n : Sentences.outside(0, 2)) {
            S.due("row " + n, x.level(0, n, 0, 12), BAD);
        }
        for (int n : Sentences.outside(0, 3)) {
            S.due("kennel " + n, x.level(0, 0, n, 12), BAD);
        }
        S.due("nothing was levelled", x.levelled(0), BAD);
        S.due("nothing was levelled", x.move(), NOT);
        S.due("the last row, the last column", x.level(0, 2, 3, 0), 0);
    }

    private static void levelledLatest() {
        S.promise(10, "New HEIGHT of a column by the latest level() that was not refused.");
        PavingTrust x = row(10, 10);
        x.level(0, 0, 0, 99);
        S.due("9 of fall", x.levelled(0), 1);
        S.due("refused", x.level(0, 0, 0, 10), BAD);
        S.due("refused", x.level(0, 0, 2, 11), BAD);
        S.due("refused", x.level(1, 0, 0, 11), BAD);
        S.due("still that one", x.levelled(0), 1);
        x.height(0, 0, 0, 77);
        S.due("by what it was then", x.levelled(0), 1);
        x.height(0, 0, 0, 10);
        x.level(0, 0, 1, 99);
        S.due("the latest", x.levelled(0), 10);
        S.due("the latest", x.levelled(1), 1);
    }

    private static void levelledRefused() {
        S.promise(10, "BAD: none such, or before any.");
        PavingTrust x = with(1, 4, 50);
        x.street(1, 9, 50);
        for (int c = -1; c <= 9; c++) {
            S.due("before any", x.levelled(c), BAD);
        }
        x.level(1, 0, 0, 0);
        S.due("the last of nine", x.levelled(8), 50);
        for (int n : Sentences.outside(0, 8)) {
            S.due("column " + n + " of nine", x.levelled(n), BAD);
        }
        x.level(0, 0, 0, 0);
        S.due("the last of four", x.levelled(3), 50);
        for (int n : Sentences.outside(0, 3)) {
            S.due("column " + n + " of four", x.levelled(n), BAD);
        }
        S.due("no column of the former street", x.levelled(8), BAD);
    }

    private static void moveToldNoMore() {
        S.promise(11, "That LEVELLING is done: the moved earth; it is told no more then.");
        PavingTrust x = row(10, 30);
        x.level(0, 0, 0, 0);
        S.due("move", x.move(), 20);
        S.due("moved", x.read(0, 0, 0), 10);
        S.due("moved", x.read(0, 0, 1), 10);
        S.due("told no more", x.levelled(0), BAD);
        S.due("told no more", x.levelled(1), BAD);
        S.due("done once", x.move(), NOT);
        x.level(0, 0, 0, 99);
        S.due("move", x.move(), 9);
        S.due("the first column is moved too", x.read(0, 0, 0), 1);
        x.level(0, 0, 0, 99);
        S.due("without earth", x.move(), 0);
        S.due("told no more", x.levelled(0), BAD);
        S.due("done once", x.move(), NOT);
    }

    private static void moveWithoutLevelling() {
        S.promise(11, "NOT: there is none");
        PavingTrust x = row(10, 30);
        S.due("before any", x.move(), NOT);
        x.level(0, 0, 0, 10);
        S.due("only a refused one", x.move(), NOT);
        S.due("as it was", x.read(0, 0, 1), 30);
    }

    private static void moveWhenChanged() {
        S.promise(11, "or some HEIGHT of that ROW is not what it was then (the LEVELLING stays).");
        PavingTrust x = with(3, 9, 40);
        x.street(3, 9, 40);
        x.height(0, 1, 4, 41);
        x.level(0, 1, 4, 0);
        for (int c = 0; c < 9; c++) {
            int was = x.height(0, 1, c, 42);
            S.due("column " + c + " is not what it was", x.move(), NOT);
            S.due("the levelling stays", x.levelled(c), 40);
            S.due("nothing is moved", x.read(0, 1, c), 42);
            x.height(0, 1, c, was);
        }
        x.height(0, 1, 4, 40);
        S.due("also if it is as levelled by now", x.move(), NOT);
        x.height(0, 1, 4, 41);
        for (int c = 0; c < 9; c++) {
            x.height(0, 0, c, 1);
            x.height(0, 2, c, 1);
            x.height(1, 1, c, 1);
        }
        S.due("other rows and streets may change", x.move(), 1);
        S.due("moved", x.read(0, 1, 4), 40);
        S.due("the row ahead is not", x.read(0, 0, 4), 1);
        S.due("the row behind is not", x.read(0, 2, 4), 1);
    }
}
