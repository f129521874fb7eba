import java.util.Random;

/** What is refused changes nothing, no call throws for any arguments, and a run stays small. */
public final class RefusalTest {
    private static final Check CHECK = new Check();
    private static final int CALLS = 512;
    private static final String TEXT = "f>9?v*2;d>3?l*10+n;12*(s+1);w";

    public static void main(String[] args) {
        for (int run = 0; run < 400; run++) {
            oneRun(new Random(run), run % 4);
        }
        CHECK.end();
    }

    /** One object gets all calls, the other only those that the first did not refuse. */
    private static void oneRun(Random random, int wildness) {
        PavingTrust all = new PavingTrust();
        PavingTrust some = new PavingTrust();
        for (int i = 0; i < CALLS; i++) {
            int method = random.nextInt(26);
            int[] a = new int[5];
            for (int j = 0; j < 5; j++) {
                a[j] = argument(random, wildness);
            }
            if (method == 12 && random.nextInt(3) > 0) {
                a[0] = 1;
                a[1] = TEXT.charAt(all.count(7) % TEXT.length());
            }
            int answer = call(all, method, a);
            if (answer >= 0 || answer <= -100 && answer != PavingTrust.VOID) {
                CHECK.due("the same call " + method, call(some, method, a), answer);
            }
        }
        Same.compare(CHECK, all, some);
    }

    private static int argument(Random random, int wildness) {
        int[] edges = {Integer.MIN_VALUE, Integer.MIN_VALUE + 1, -2, -1, 100, 9999, 10000, Integer.MAX_VALUE};
        int what = random.nextInt(12);
        if (what < wildness) {
            return what == 0 ? random.nextInt() : edges[random.nextInt(edges.length)];
        }
        return what < 9 ? random.nextInt(4) : what < 11 ? random.nextInt(20) : random.nextInt(300);
    }

    private static int call(PavingTrust x, int method, int[] a) {
        switch (method) {
            case 0: return x.street(a[0], a[1], a[2]);
            case 1: return x.height(a[0], a[1], a[2], a[3]);
            case 2: return x.drain(a[0], a[1], a[2], a[3]);
            case 3: return x.level(a[0], a[1], a[2], a[3]);
            case 4: return x.move();
            case 5: return x.stones(a[0], a[1]);
            case 6: return x.course(a[0]);
            case 7: return x.lay(a[0]);
            case 8: return x.year();
            case 9: return x.wheels(a[0], a[1], a[2]);
            case 10: return x.pave(a[0]);
            case 11: return x.cost(a[0], a[1], a[2], a[3]);
            case 12: return x.feed(a[0], a[1]);
            case 13: return x.plan(a[0], a[1], a[2], a[3], a[4]);
            case 14: return x.house(a[0], a[1], a[2]);
            case 15: return x.days(a[0]);
            case 16: return a[4] % 8 == 0 ? x.act(a[0], a[1]) : x.count(7);
            case 17: return x.open(a[0], a[1], a[2], a[3]);
            case 18: return x.back(a[0]);
            case 19: return x.draw(a[0], a[1], a[2]);
            case 20: return x.bad(a[0], a[1], a[2], a[3]);
            case 21: return x.rate(a[0], a[1], a[2]);
            case 22: return x.rates(a[0], a[1]);
            case 23: return x.penalty(a[0], a[1], a[2]);
            case 24: return x.inForce(a[0], a[1], a[2]);
            default: return x.clause(a[0], a[1]) + x.sink(a[0], a[1]) + x.opening(a[0], a[1]) + x.water(a[0], a[1], a[2])
                    + x.standing(a[0]) + x.most(a[0]) + x.levelled(a[0]) + x.of(a[0]) + x.wear(a[0], a[1]) + x.planned(a[0])
                    + x.drawn(a[0]) + x.read(a[0], a[1], a[2]) + x.count(a[0]) > 0 ? 1 : 0;
        }
    }
}
