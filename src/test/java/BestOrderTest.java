/** Promises 14 and 15: best, keep. */
public final class BestOrderTest {
    private static final Check CHECK = new Check();
    private static final int NONE = CureTown.NONE;

    public static void main(String[] args) {
        mostDone();
        leastSumOfEnds();
        fewerDoneEndSooner();
        firstByGuests();
        sixAtMost();
        wrongInputs();
        keeping();
        keptForOneDay();
        keptGlassesCount();
        keptWithSevenThere();
        CHECK.finish();
    }

    private static void bests(CureTown x, int day, int done, int ends, int... order) {
        CHECK.due("best(" + day + ", 0)", x.best(day, 0), done);
        CHECK.due("best(" + day + ", 1)", x.best(day, 1), ends);
        for (int i = 0; i < order.length; i++) {
            CHECK.due("best(" + day + ", " + (10 + i) + ")", x.best(day, 10 + i), order[i]);
        }
        CHECK.due("best(" + day + ", behind)", x.best(day, 10 + order.length), NONE);
    }

    /** The one who is first by rank holds the only bath so long that the other gets none. */
    private static CureTown crowded() {
        CureTown x = new CureTown();
        Texts.load(x, "cure long: bath 0 16 bath 0 16 bath 0 12; cure short: bath 0 5 rest 1 rest 1;");
        x.bath(0, 0, true);
        x.guest(0, 0, 0, 50, 0);
        x.guest(1, 1, 0, 50, 0);
        return x;
    }

    private static void mostDone() {
        CureTown x = crowded();
        CHECK.plans(x, 0, 0, 0, 3, 44, 0, 0);
        CHECK.plans(x, 0, 1, 0, 0, 0, 0, 1);
        bests(x, 0, 5, 37 + 7, 1, 0);
        bests(x, 49, 5, 44, 1, 0);
        bests(x, 50, 0, 0);
    }

    private static void leastSumOfEnds() {
        CureTown x = new CureTown();
        Texts.load(x, "cure a: bath 0 8; cure b: bath 0 2; cure c: bath 0 4;");
        x.bath(0, 0, true);
        x.guest(0, 0, 0, 9, 0);
        x.guest(3, 1, 0, 9, 0);
        x.guest(1, 2, 0, 9, 0);
        bests(x, 0, 3, 2 + 6 + 14, 1, 2, 0);
    }

    private static void fewerDoneEndSooner() {
        CureTown x = new CureTown();
        Texts.load(x, "cure a: until 40 bath 0 8; cure b: until 46 bath 0 1 rest 1; cure c: rest 1;");
        x.bath(0, 0, true);
        x.guest(0, 0, 0, 9, 0);
        x.guest(0, 1, 0, 9, 0);
        x.guest(0, 2, 0, 9, 0);
        // Ends are 48 + 0 + 1 with two done, 0 + 48 + 1 with three: more that is done goes ahead.
        bests(x, 0, 3, 49, 1, 0, 2);
    }

    private static void firstByGuests() {
        CureTown x = new CureTown();
        Texts.load(x, "cure a: glass 0; cure b: rest 3;");
        x.spring(0, 1, 0, 48, 0);
        x.guest(3, 0, 0, 9, 0);
        x.guest(2, 0, 0, 9, 0);
        x.guest(1, 1, 3, 9, 0);
        x.guest(0, 0, 0, 9, 0);
        bests(x, 0, 3, 6, 0, 1, 3);
        bests(x, 3, 4, 9, 0, 1, 2, 3);
        x.leave(0, 4);
        bests(x, 4, 3, 6, 1, 2, 3);
    }

    private static void sixAtMost() {
        CureTown x = new CureTown();
        Texts.load(x, "cure a: glass 0 glass 0;");
        x.spring(0, 1, 0, 12, 0);
        for (int g = 0; g < 6; g++) {
            x.guest(0, 0, 0, 9, 0);
        }
        x.guest(0, 0, 5, 9, 0);
        bests(x, 0, 12, 2 + 4 + 6 + 8 + 10 + 12, 0, 1, 2, 3, 4, 5);
        CHECK.due("seven: best(5, 0)", x.best(5, 0), NONE);
        CHECK.due("seven: best(5, 1)", x.best(5, 1), NONE);
        CHECK.due("seven: best(5, 10)", x.best(5, 10), NONE);
        CHECK.due("six of seven: keep", x.keep(true), true);
        x.leave(3, 5);
        bests(x, 5, 12, 42, 0, 1, 2, 4, 5, 6);
    }

    private static void wrongInputs() {
        CureTown x = crowded();
        int[] whats = {-1, 2, 9, 12, 16, 100, Integer.MAX_VALUE, Integer.MIN_VALUE};
        for (int what : whats) {
            CHECK.due("best(0, " + what + ")", x.best(0, what), NONE);
        }
        CHECK.due("best(-1, 0)", x.best(-1, 0), NONE);
        CHECK.due("best(100, 0)", x.best(100, 0), NONE);
        CHECK.due("best(99, 0)", x.best(99, 0), 0);
        x.next();
        CHECK.due("best of a day that ended", x.best(0, 0), NONE);
        CHECK.due("best(1, 0)", x.best(1, 0), 5);
    }

    /** Each of three takes a glass in another order; what counts is that of the best one. */
    private static void keptGlassesCount() {
        CureTown x = new CureTown();
        Texts.load(x, "cure a: glass 0 glass 0 glass 0 glass 0; cure b: glass 0 rest 1; cure c: glass 0 rest 1 glass 0;");
        x.spring(0, 1, 0, 5, 0);
        x.guest(0, 0, 0, 9, 0);
        x.guest(1, 1, 0, 9, 0);
        x.guest(2, 2, 0, 9, 0);
        // In its order 4 + 2 + 0 are done; 2 + 2 + 3 at the best, and the ends are 5 + 2 + 4 then.
        bests(x, 0, 7, 11, 1, 2, 0);
        x.keep(true);
        x.next();
        int[] glasses = {2, 1, 2};
        int[] done = {2, 2, 3};
        for (int g = 0; g < 3; g++) {
            CHECK.due("bill(" + g + ", 2)", x.bill(g, 2), glasses[g]);
            CHECK.due("bill(" + g + ", 3)", x.bill(g, 3), done[g]);
        }
        CHECK.due("water(0, 1)", x.water(0, 1), 5);
    }

    private static void keeping() {
        CureTown x = crowded();
        x.next();
        CHECK.due("nothing told: done 0", x.bill(0, 3), 3);
        CHECK.due("nothing told: done 1", x.bill(1, 3), 0);
        x = crowded();
        CHECK.due("keep(true)", x.keep(true), true);
        CHECK.plans(x, 0, 1, 0, 0);
        x.next();
        CHECK.due("done 0", x.bill(0, 3), 2);
        CHECK.due("done 1", x.bill(1, 3), 3);
        x = crowded();
        CHECK.due("keep(true)", x.keep(true), true);
        CHECK.due("keep(false)", x.keep(false), true);
        x.next();
        CHECK.due("done 0", x.bill(0, 3), 3);
        CHECK.due("done 1", x.bill(1, 3), 0);
    }

    private static void keptForOneDay() {
        CureTown x = crowded();
        x.keep(true);
        x.next();
        x.next();
        CHECK.due("done 0", x.bill(0, 3), 5);
        CHECK.due("done 1", x.bill(1, 3), 3);
        x.best(2, 0);
        x.next();
        CHECK.due("done 0, best was only asked", x.bill(0, 3), 8);
    }

    private static void keptWithSevenThere() {
        CureTown x = crowded();
        x.keep(true);
        Texts.load(x, "cure none:;");
        for (int g = 2; g < 7; g++) {
            x.guest(3, 2, 0, 9, 0);
        }
        CHECK.due("seven: keep(true)", x.keep(true), false);
        CHECK.due("seven: keep(false)", x.keep(false), false);
        x.next();
        CHECK.due("in its order: done 0", x.bill(0, 3), 3);
        CHECK.due("in its order: done 1", x.bill(1, 3), 0);
        x.leave(6, 1);
        CHECK.due("six: keep(true)", x.keep(true), true);
        x.guest(3, 2, 1, 9, 0);
        CHECK.due("seven: keep(false)", x.keep(false), false);
        x.leave(5, 1 + 1);
        x.next();
        CHECK.due("in its order again: done 1", x.bill(1, 3), 0);
        CHECK.due("six: keep(true)", x.keep(true), true);
        x.next();
        CHECK.due("in best order: done 1", x.bill(1, 3), 3);
    }
}
