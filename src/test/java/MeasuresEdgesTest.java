import java.math.BigInteger;

/** The sentences on measures and counts that name a boundary: promises 36 to 39. */
public final class MeasuresEdgesTest {
    private static final Sentences S = new Sentences();
    private static final int BAD = PavingTrust.BAD;

    public static void main(String[] args) {
        lotsWithin();
        anIntThatWraps();
        notDrawnYet();
        partsWithin();
        fromBToTheRest();
        partAtLeast();
        drawKeepsTheLatest();
        drawRefused();
        drawnRefused();
        badRefused();
        counts();
        countRefused();
        S.end(36, 39);
    }

    private static void lotsWithin() {
        S.terms("N SQUARES (1 .. 40), n of which (1 .. N) are DRAWN");
        PavingTrust x = new PavingTrust();
        for (int all : Sentences.outside(1, 40)) {
            S.due("draw of " + all, x.draw(all, 1, 7), BAD);
            S.due("bad of " + all, x.bad(all, 1, 0, 500), BAD);
        }
        for (int all = 1; all <= 40; all++) {
            S.due("none of " + all, x.draw(all, 0, 7), BAD);
            S.due("one too many of " + all, x.draw(all, all + 1, 7), BAD);
            S.due("one of " + all, x.draw(all, 1, 7), 1);
            S.due("all of " + all, x.draw(all, all, 7), all);
            S.due("none of " + all, x.bad(all, 0, 0, 500), BAD);
            S.due("one too many of " + all, x.bad(all, all + 1, 0, 500), BAD);
            S.due("all of " + all, x.bad(all, all, 0, 500), 0);
        }
    }

    private static void anIntThatWraps() {
        S.terms("z becomes z * 1103515245 + 12345 (an int)");
        int[] seeds = {0, 1, -1, 2, 255, 256, Integer.MAX_VALUE, Integer.MIN_VALUE, Integer.MIN_VALUE + 1, 1103515245, -12345};
        for (int seed : seeds) {
            for (int all = 1; all <= 40; all += 13) {
                comparesWithLongWay(all, all, seed);
            }
        }
        PavingTrust x = new PavingTrust();
        x.draw(40, 1, Integer.MIN_VALUE);
        S.due("-2147471303 shifted without sign is 8388656", x.drawn(0), 16);
        x.draw(40, 1, 0);
        S.due("12345 shifted is 48", x.drawn(0), 8);
    }

    private static void comparesWithLongWay(int all, int n, int seed) {
        PavingTrust x = new PavingTrust();
        S.due("draw(" + all + ", " + n + ", " + seed + ")", x.draw(all, n, seed), n);
        boolean[] isDrawn = new boolean[all];
        BigInteger z = BigInteger.valueOf(seed);
        BigInteger ints = BigInteger.ONE.shiftLeft(32);
        for (int i = 0; i < n; i++) {
            z = z.multiply(BigInteger.valueOf(1103515245)).add(BigInteger.valueOf(12345)).mod(ints);
            int place = z.shiftRight(8).mod(BigInteger.valueOf(all - i)).intValue();
            int square = -1;
            for (int left = place; left >= 0; left--) {
                square++;
                while (isDrawn[square]) {
                    square++;
                }
            }
            isDrawn[square] = true;
            S.due("drawn(" + i + ") by " + seed, x.drawn(i), square);
        }
    }

    private static void notDrawnYet() {
        S.terms("of the SQUARES not drawn yet, rising, that at place ((z >>> 8) % how many there are).");
        PavingTrust x = new PavingTrust();
        for (int all = 1; all <= 40; all++) {
            x.draw(all, all, all * 1000003);
            long seen = 0;
            for (int i = 0; i < all; i++) {
                int square = x.drawn(i);
                S.holds("a square of " + all, square >= 0 && square < all && (seen >> square & 1) == 0);
                seen |= 1L << square;
            }
            S.due("each once", seen, (1L << all) - 1);
        }
        S.due("one of one", x.draw(1, 1, 99), 1);
        S.due("one of one", x.drawn(0), 0);
    }

    private static void partsWithin() {
        S.terms("by a part p (1 .. 9999)");
        PavingTrust x = new PavingTrust();
        for (int p : Sentences.outside(1, 9999)) {
            S.due("part " + p, x.bad(40, 10, 0, p), BAD);
        }
        S.due("the least part", x.bad(40, 1, 0, 1), 39);
        S.due("the greatest part", x.bad(40, 1, 0, 9999), 0);
        S.due("the greatest part", x.bad(40, 40, 0, 9999), 0);
    }

    private static void fromBToTheRest() {
        S.terms("the greatest B (of those from b to N - n + b)");
        PavingTrust x = new PavingTrust();
        for (int all = 1; all <= 40; all += 3) {
            for (int b = 0; b <= all; b++) {
                S.due("all of " + all + " drawn, " + b + " bad", x.bad(all, all, b, 1), b);
            }
            S.due("all drawn ones of " + all + " are bad", x.bad(all, 1, 1, 9999), all);
        }
        S.due("the least part leads to the most", x.bad(3, 1, 0, 1), 2);
        S.due("N - n + b, though fewer could not be drawn", x.bad(3, 2, 1, 1), 2);
        S.due("b at least", x.bad(40, 39, 5, 9999), 5);
        S.due("one of six bad ones is the one in forty left behind", x.bad(40, 39, 5, 1500), 6);
        S.due("by no greater part", x.bad(40, 39, 5, 1501), 5);
    }

    private static void partAtLeast() {
        S.terms("with which the chance to draw b or fewer bad ones of n out of N is p of 10000 at least.");
        PavingTrust x = new PavingTrust();
        S.due("a half", x.bad(2, 1, 0, 5000), 1);
        S.due("more than a half", x.bad(2, 1, 0, 5001), 0);
        S.due("a quarter of four", x.bad(4, 1, 0, 2500), 3);
        S.due("more than a quarter of four", x.bad(4, 1, 0, 2501), 2);
        S.due("a third is more than 3333", x.bad(3, 1, 0, 3333), 2);
        S.due("a third is less than 3334", x.bad(3, 1, 0, 3334), 1);
        S.due("b or fewer: 1 - 1/6", x.bad(4, 2, 1, 8333), 2);
        S.due("b or fewer: 1 - 1/6", x.bad(4, 2, 1, 8334), 1);
        S.due("many ways", x.bad(40, 20, 0, 1), 10);
        // of 21 bad ones as many are left behind as are drawn, by equal chances: just a half
        S.due("many ways, a half", x.bad(40, 20, 10, 5000), 21);
        S.due("many ways, more than a half", x.bad(40, 20, 10, 5001), 20);
    }

    private static void drawKeepsTheLatest() {
        S.promise(36, "How many SQUARES of N are DRAWN by a number z, of n; the latest one is kept: n.");
        PavingTrust x = new PavingTrust();
        S.due("five", x.draw(40, 5, 1), 5);
        int[] five = new int[5];
        for (int i = 0; i < 5; i++) {
            five[i] = x.drawn(i);
        }
        S.due("three", x.draw(40, 3, 2), 3);
        S.due("a fourth is none of it", x.drawn(3), BAD);
        S.due("the former again", x.draw(40, 5, 1), 5);
        for (int i = 0; i < 5; i++) {
            S.due("as before", x.drawn(i), five[i]);
        }
        x.bad(10, 5, 1, 500);
        S.due("bad() draws nothing", x.drawn(4), five[4]);
    }

    private static void drawRefused() {
        S.promise(36, "BAD.");
        PavingTrust x = new PavingTrust();
        x.draw(40, 40, 7);
        int last = x.drawn(39);
        S.due("none of none", x.draw(0, 0, 1), BAD);
        S.due("one of none", x.draw(0, 1, 1), BAD);
        S.due("too many", x.draw(41, 1, 1), BAD);
        S.due("more than all", x.draw(40, 41, 1), BAD);
        S.due("more than all", x.draw(5, 6, 1), BAD);
        for (int n : Sentences.outside(1, 5)) {
            S.due(n + " of five", x.draw(5, n, 1), BAD);
        }
        S.due("the latest one not refused is kept", x.drawn(39), last);
    }

    private static void drawnRefused() {
        S.promise(37, "The SQUARE (0 .. N - 1) drawn at place i of the latest draw(). BAD.");
        PavingTrust x = new PavingTrust();
        for (int i = -1; i <= 40; i++) {
            S.due("before any", x.drawn(i), BAD);
        }
        for (int n = 1; n <= 40; n += 3) {
            x.draw(40, n, 3);
            S.holds("the last of " + n, x.drawn(n - 1) >= 0 && x.drawn(n - 1) <= 39);
            for (int i : Sentences.outside(0, n - 1)) {
                S.due("place " + i + " of " + n, x.drawn(i), BAD);
            }
        }
    }

    private static void badRefused() {
        S.promise(38, "MOST BAD: B. BAD (also b above n).");
        PavingTrust x = new PavingTrust();
        for (int n = 1; n <= 40; n += 3) {
            for (int b : Sentences.outside(0, n)) {
                S.due(b + " bad of " + n, x.bad(40, n, b, 500), BAD);
            }
            S.due("all bad", x.bad(40, n, n, 500), 40);
            S.holds("none bad", x.bad(40, n, 0, 500) >= 0);
        }
    }

    private static void counts() {
        S.promise(39, "How many: 0 STREETS, 1 HOUSES, 2 ACTS, 3 OPENINGS, 4 of these open, 5 TODAY, 6 THIS YEAR, 7 bytes on THE TAPE, 8 stones in THE YARD.");
        PavingTrust x = new PavingTrust();
        int[] due = new int[9];
        counted(x, due, 0, x.street(1, 2, 1) + 1);
        counted(x, due, 1, x.house(1, -1, 1) + 1);
        counted(x, due, 7, x.feed(4, 0x31313131));
        due[7] = 0;
        counted(x, due, 2, x.act(0, 0) + 1);
        due[3] = 1;
        counted(x, due, 4, x.open(0, 0, 0, 1) + 1);
        due[3] = 2;
        counted(x, due, 4, x.open(1, 0, 1, 1) + 1);
        counted(x, due, 4, x.back(0) + 1);
        counted(x, due, 5, x.days(100));
        counted(x, due, 6, x.year());
        counted(x, due, 8, x.stones(9, 99));
        counted(x, due, 8, 99 + x.stones(1, 1));
        counted(x, due, 8, 100 - x.lay(10));
    }

    private static void counted(PavingTrust x, int[] due, int what, int n) {
        due[what] = n;
        for (int i = 0; i <= 8; i++) {
            S.due("count(" + i + ")", x.count(i), due[i]);
        }
    }

    private static void countRefused() {
        S.promise(39, "8 stones in THE YARD. BAD.");
        PavingTrust x = new PavingTrust();
        for (int what : Sentences.outside(0, 8)) {
            S.due("count(" + what + ")", x.count(what), BAD);
        }
    }
}
