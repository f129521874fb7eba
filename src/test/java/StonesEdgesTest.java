/** The sentences on stones that name a boundary: promises 12 to 15. */
public final class StonesEdgesTest {
    private static final Sentences S = new Sentences();
    private static final int BAD = PavingTrust.BAD, NOT = PavingTrust.NOT;

    public static void main(String[] args) {
        sizes();
        yardHolds();
        widths();
        exactlyTheWidth();
        asManyAsThereAre();
        theFewest();
        moreOfTheGreatest();
        layingTakesThem();
        stonesAtATime();
        stonesTooMany();
        courseTakesNothing();
        courseRefused();
        latestCourse();
        ofRefused();
        layRefused();
        S.end(12, 15);
    }

    /** A yard of pairs: a size and how many there are (at most 99). */
    private static PavingTrust yard(int... pairs) {
        PavingTrust x = new PavingTrust();
        for (int i = 0; i < pairs.length; i += 2) {
            x.stones(pairs[i], pairs[i + 1]);
        }
        return x;
    }

    private static void courseIs(PavingTrust x, int w, int n, int... pairs) {
        S.due("course(" + w + ")", x.course(w), n);
        int[] due = new int[10];
        for (int i = 0; i < pairs.length; i += 2) {
            due[pairs[i]] = pairs[i + 1];
        }
        for (int size = 1; size <= 9; size++) {
            S.due("of(" + size + ") for " + w, x.of(size), due[size]);
        }
    }

    private static void sizes() {
        S.terms("of SIZES 1 .. 9");
        PavingTrust x = new PavingTrust();
        for (int size : Sentences.outside(1, 9)) {
            S.due("size " + size, x.stones(size, 1), BAD);
        }
        S.due("none came", x.count(8), 0);
        for (int size = 1; size <= 9; size++) {
            S.due("size " + size, x.stones(size, size), size);
        }
        S.due("all", x.count(8), 45);
    }

    private static void yardHolds() {
        S.terms("there are some in THE YARD (0 .. 999 each)");
        PavingTrust x = new PavingTrust();
        for (int size = 1; size <= 9; size++) {
            for (int i = 1; i <= 10; i++) {
                S.due("stones", x.stones(size, 99), 99 * i);
            }
            S.due("999", x.stones(size, 9), 999);
            S.due("1000", x.stones(size, 1), NOT);
        }
        S.due("999 of each", x.count(8), 8991);
        S.due("a course of the full yard", x.lay(60), 7);
        S.due("there is room again", x.stones(9, 6), 999);
        S.due("and no more", x.stones(9, 1), NOT);
    }

    private static void widths() {
        S.terms("A COURSE for a width w (1 .. 60)");
        PavingTrust x = yard(1, 99);
        for (int w : Sentences.outside(1, 60)) {
            S.due("course(" + w + ")", x.course(w), BAD);
            S.due("lay(" + w + ")", x.lay(w), BAD);
        }
        for (int w = 1; w <= 60; w++) {
            S.due("course(" + w + ")", x.course(w), w);
        }
        S.due("lay(60)", x.lay(60), 60);
        S.due("lay(1)", x.lay(1), 1);
    }

    private static void exactlyTheWidth() {
        S.terms("stones whose SIZES are w together");
        PavingTrust x = yard(9, 6, 5, 1);
        S.due("one less than there is a course for", x.course(58), NOT);
        S.due("all together", x.course(59), 7);
        S.due("one more", x.course(60), NOT);
        S.due("the least stone", x.course(5), 1);
        S.due("less than the least stone", x.course(4), NOT);
        S.due("between", x.course(10), NOT);
        S.due("both sizes", x.course(14), 2);
    }

    private static void asManyAsThereAre() {
        S.terms("of each as many as there are at most");
        courseIs(yard(6, 2, 1, 99), 12, 2, 6, 2);
        courseIs(yard(6, 2, 1, 99), 18, 8, 6, 2, 1, 6);
        S.due("all of them", yard(3, 4).course(12), 4);
        S.due("one more than all", yard(3, 4).course(15), NOT);
        S.due("all of the least", yard(1, 60).course(60), 60);
        S.due("one too few of the least", yard(1, 59).course(60), NOT);
    }

    private static void theFewest() {
        S.terms("of each as many as there are at most: the fewest;");
        courseIs(yard(9, 9, 5, 9, 1, 99), 10, 2, 9, 1, 1, 1);
        courseIs(yard(9, 9, 6, 9, 1, 99), 12, 2, 6, 2);
        courseIs(yard(8, 1, 5, 2, 1, 9), 10, 2, 5, 2);
        courseIs(yard(9, 3, 8, 3, 1, 99), 60, 15, 9, 3, 8, 3, 1, 9);
        courseIs(yard(9, 99, 7, 99, 1, 99), 60, 8, 9, 5, 7, 2, 1, 1);
    }

    private static void moreOfTheGreatest() {
        S.terms("of several the one with more of the greatest SIZE in which they differ.");
        courseIs(yard(5, 9, 4, 9, 3, 9), 8, 2, 5, 1, 3, 1);
        courseIs(yard(9, 1, 7, 1, 6, 9, 5, 9), 21, 3, 9, 1, 7, 1, 5, 1);
        courseIs(yard(9, 1, 8, 9, 7, 9, 1, 9), 16, 2, 9, 1, 7, 1);
        courseIs(yard(9, 2, 4, 1, 2, 1, 3, 2), 24, 4, 9, 2, 4, 1, 2, 1);
    }

    private static void layingTakesThem() {
        S.terms("LAYING it takes them out of THE YARD.");
        PavingTrust x = yard(5, 2, 3, 1);
        S.due("5 + 3", x.lay(8), 2);
        S.due("one is left", x.count(8), 1);
        S.due("3 is not left", x.course(3), NOT);
        S.due("the last one", x.lay(5), 1);
        S.due("none is left", x.count(8), 0);
        S.due("none is left", x.lay(5), NOT);
        S.due("they come from none again", x.stones(5, 1), 1);
    }

    private static void stonesAtATime() {
        S.promise(12, "n (1 .. 99) stones of a SIZE come to THE YARD: how many there are.");
        PavingTrust x = new PavingTrust();
        for (int n : Sentences.outside(1, 99)) {
            S.due(n + " stones", x.stones(4, n), BAD);
        }
        S.due("none came", x.count(8), 0);
        S.due("one", x.stones(4, 1), 1);
        S.due("ninety-nine", x.stones(4, 99), 100);
        S.due("of that size alone", x.stones(5, 1), 1);
    }

    private static void stonesTooMany() {
        S.promise(12, "BAD; NOT: more than 999.");
        PavingTrust x = new PavingTrust();
        for (int i = 0; i < 10; i++) {
            x.stones(1, 99);
        }
        S.due("1000", x.stones(1, 10), NOT);
        S.due("far more", x.stones(1, 99), NOT);
        S.due("none of them came", x.count(8), 990);
        S.due("BAD is named first", x.stones(1, 100), BAD);
        S.due("BAD is named first", x.stones(0, 10), BAD);
        S.due("999", x.stones(1, 9), 999);
        S.due("BAD is named first", x.stones(1, 0), BAD);
        S.due("1000", x.stones(1, 1), NOT);
    }

    private static void courseTakesNothing() {
        S.promise(13, "A COURSE: how many stones; nothing is taken.");
        PavingTrust x = yard(7, 1);
        S.due("course", x.course(7), 1);
        S.due("still there", x.count(8), 1);
        S.due("once more", x.course(7), 1);
        S.due("still there", x.lay(7), 1);
    }

    private static void courseRefused() {
        S.promise(13, "BAD. NOT: none.");
        PavingTrust x = new PavingTrust();
        S.due("an empty yard", x.course(1), NOT);
        S.due("an empty yard", x.course(60), NOT);
        S.due("BAD is named first", x.course(0), BAD);
        S.due("BAD is named first", x.course(61), BAD);
        x.stones(2, 99);
        for (int w = 1; w <= 60; w++) {
            S.due("course(" + w + ")", x.course(w), w % 2 == 0 ? w / 2 : NOT);
        }
    }

    private static void latestCourse() {
        S.promise(14, "How many of a SIZE the latest course() that was not refused has");
        PavingTrust x = yard(7, 3, 2, 3);
        x.course(9);
        S.due("none such", x.course(1), NOT);
        S.due("none such", x.course(0), BAD);
        S.due("none such", x.course(61), BAD);
        S.due("still that for 9", x.of(7), 1);
        S.due("still that for 9", x.of(2), 1);
        S.due("lay is no course()", x.lay(14), 2);
        S.due("still that for 9", x.of(7), 1);
        S.due("still that for 9, though there are none", x.lay(9), 2);
        S.due("still that for 9, though there are none", x.of(7), 1);
        x.course(4);
        S.due("the latest", x.of(7), 0);
        S.due("the latest", x.of(2), 2);
    }

    private static void ofRefused() {
        S.promise(14, "BAD: no such SIZE, or before any.");
        PavingTrust x = yard(7, 3);
        for (int size = 0; size <= 10; size++) {
            S.due("before any", x.of(size), BAD);
        }
        S.due("refused", x.course(8), NOT);
        S.due("before any that was not refused", x.of(7), BAD);
        x.lay(7);
        S.due("lay is no course()", x.of(7), BAD);
        x.course(7);
        for (int size : Sentences.outside(1, 9)) {
            S.due("of(" + size + ")", x.of(size), BAD);
        }
        S.due("a size of which it has none", x.of(9), 0);
        S.due("the size of which it has some", x.of(7), 1);
    }

    private static void layRefused() {
        S.promise(15, "It is LAID: how many stones. BAD, NOT (as course()).");
        PavingTrust x = yard(7, 3);
        S.due("too small", x.lay(0), BAD);
        S.due("too large", x.lay(61), BAD);
        S.due("none", x.lay(6), NOT);
        S.due("none", x.lay(28), NOT);
        S.due("nothing was taken", x.count(8), 3);
        S.due("all of them", x.lay(21), 3);
        S.due("none is left", x.lay(7), NOT);
        S.due("BAD is named first", x.lay(61), BAD);
    }
}
