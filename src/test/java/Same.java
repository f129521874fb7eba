/** Compares two objects by all that their calls tell; at its end by calls that change them, too. */
final class Same {
    private Same() {
    }

    static void compare(Check check, PavingTrust x, PavingTrust y) {
        for (int i = -1; i < 10; i++) {
            check.due("count", x.count(i), y.count(i));
            check.due("levelled", x.levelled(i), y.levelled(i));
            check.due("of", x.of(i), y.of(i));
            check.due("planned", x.planned(i), y.planned(i));
            compareStreet(check, x, y, i);
        }
        for (int i = 0; i < 200; i++) {
            check.due("drawn", x.drawn(i), y.drawn(i));
            check.due("rate", x.rate(i, 400, 400), y.rate(i, 400, 400));
            check.due("clause", x.clause(i, 400), y.clause(i, 400));
            check.due("penalty", x.penalty(i, x.count(5), 400), y.penalty(i, y.count(5), 400));
            for (int what = 0; what < 6; what++) {
                check.due("opening", x.opening(i, what), y.opening(i, what));
            }
            check.due("inForce", x.inForce(i % 2, i, i), y.inForce(i % 2, i, i));
        }
        compareByChanges(check, x, y);
    }

    private static void compareStreet(Check check, PavingTrust x, PavingTrust y, int i) {
        check.due("standing", x.standing(i), y.standing(i));
        check.due("most", x.most(i), y.most(i));
        check.due("rates", x.rates(i, 300), y.rates(i, 300));
        for (int year = 0; year <= 40; year++) {
            check.due("wear", x.wear(i, year), y.wear(i, year));
        }
        for (int at = 0; at < 256; at++) {
            check.due("read", x.read(i, at / 16, at % 16), y.read(i, at / 16, at % 16));
            check.due("water", x.water(i, at / 16, at % 16), y.water(i, at / 16, at % 16));
            check.due("sink", x.sink(i, at), y.sink(i, at));
        }
    }

    /** The pending levelling, the tape's bytes, the stones of each size and the costs show by these alone. */
    private static void compareByChanges(Check check, PavingTrust x, PavingTrust y) {
        check.due("move", x.move(), y.move());
        for (int at = 0; at < 256; at++) {
            check.due("moved", x.read(0, at / 16, at % 16), y.read(0, at / 16, at % 16));
        }
        check.due("act", x.act(0, 0), y.act(0, 0));
        check.due("rates by the tape", x.rates(0, 9999), y.rates(0, 9999));
        check.due("course", x.course(60), y.course(60));
        for (int size = 1; size <= 9; size++) {
            check.due("of the course", x.of(size), y.of(size));
            check.due("stones", x.stones(size, 1), y.stones(size, 1));
        }
        for (int i = 0; i < 8; i++) {
            for (int money = 0; money < 20; money++) {
                check.due("plan", x.plan(1 << i, 3, 0, money, 0), y.plan(1 << i, 3, 0, money, 0));
                check.due("planned", x.planned(i), y.planned(i));
            }
        }
    }
}
