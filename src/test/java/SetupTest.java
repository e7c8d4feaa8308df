/** Promises 1 to 4: a new object, spring, bath, rate. */
public final class SetupTest {
    private static final Check CHECK = new Check();

    public static void main(String[] args) {
        newObject();
        springTakesWhatCanBe();
        springRefusesWhatCantBe();
        bathTakesAndRefuses();
        rateTakesAndRefuses();
        CHECK.finish();
    }

    private static void newObject() {
        CureTown x = new CureTown();
        for (int what = 0; what <= 6; what++) {
            CHECK.due("new: look(" + what + ")", x.look(what), 0);
        }
        CHECK.due("new: fault(0)", x.fault(0), 0);
        CHECK.due("new: fault(1)", x.fault(1), CureTown.NONE);
        CHECK.due("new: bill(0, 0)", x.bill(0, 0), CureTown.NONE);
        CHECK.due("new: plan(0, 0, 0)", x.plan(0, 0, 0), CureTown.NONE);
        CHECK.due("new: best(0, 0)", x.best(0, 0), 0);
        CHECK.due("new: best(0, 10)", x.best(0, 10), CureTown.NONE);
        CHECK.due("new: next()", x.next(), 1);
        CHECK.due("new: water(0, 0)", x.water(0, 0), 0);
        baths(x);
    }

    private static void baths(CureTown x) {
        Texts.load(x, "cure b: bath 0 1;");
        x.guest(0, 0, 1, 2, 0);
        CHECK.due("no bath is open at first", x.plan(1, 0, 3), 1);
    }

    private static void springTakesWhatCanBe() {
        CureTown x = new CureTown();
        CHECK.due("spring(0, 9, 0, 48, 9)", x.spring(0, 9, 0, 48, 9), true);
        CHECK.due("spring(1, 2, 3, 8, 0)", x.spring(1, 2, 3, 8, 0), true);
        CHECK.due("spring(2, 9, 5, 5, 0)", x.spring(2, 9, 5, 5, 0), true);
        CHECK.due("spring(3, 1, 47, 48, 1)", x.spring(3, 1, 47, 48, 1), true);
        x.next();
        CHECK.due("given 0", x.water(0, 0), 432);
        CHECK.due("given 1", x.water(1, 0), 10);
        CHECK.due("given 2", x.water(2, 0), 0);
        CHECK.due("given 3", x.water(3, 0), 1);
        CHECK.due("spring(0, 0, 0, 48, 0)", x.spring(0, 0, 0, 48, 0), true);
        x.next();
        CHECK.due("given 0 then", x.water(0, 0), 432);
    }

    private static void springRefusesWhatCantBe() {
        CureTown x = new CureTown();
        x.spring(0, 1, 2, 12, 3);
        int[][] wrong = {{-1, 2, 0, 9, 1}, {4, 2, 0, 9, 1}, {0, -1, 0, 9, 1}, {0, 10, 0, 9, 1}, {0, 2, -1, 9, 1},
            {0, 2, 9, 8, 1}, {0, 2, 0, 49, 1}, {0, 2, 49, 49, 1}, {0, 2, 0, -1, 1}, {0, 2, 0, 9, -1}, {0, 2, 0, 9, 10},
            {Integer.MAX_VALUE, 2, 0, 9, 1}, {Integer.MIN_VALUE, 2, 0, 9, 1}, {0, 2, Integer.MIN_VALUE, 9, 1},
            {0, 2, 0, Integer.MAX_VALUE, 1}};
        for (int[] w : wrong) {
            CHECK.due("spring" + java.util.Arrays.toString(w), x.spring(w[0], w[1], w[2], w[3], w[4]), false);
        }
        Texts.load(x, "cure a: glass 0 glass 0;");
        x.guest(0, 0, 0, 9, 5);
        CHECK.plans(x, 0, 0, 0, 1, 3, 1, 0);
        x.next();
        CHECK.due("nothing was done", x.water(0, 0), 10);
    }

    private static void bathTakesAndRefuses() {
        CureTown x = new CureTown();
        Texts.load(x, "cure b: bath 2 1;");
        x.guest(0, 0, 0, 9, 0);
        CHECK.due("bath(5, 2, true)", x.bath(5, 2, true), true);
        CHECK.due("of 5", x.plan(0, 0, 50), 5);
        CHECK.due("bath(0, 2, true)", x.bath(0, 2, true), true);
        CHECK.due("of 0", x.plan(0, 0, 50), 0);
        CHECK.due("bath(0, 2, false)", x.bath(0, 2, false), true);
        CHECK.due("of 5 again", x.plan(0, 0, 50), 5);
        int[][] wrong = {{-1, 0}, {6, 0}, {5, -1}, {5, 3}, {Integer.MAX_VALUE, 0}, {5, Integer.MIN_VALUE}};
        for (int[] w : wrong) {
            CHECK.due("bath" + java.util.Arrays.toString(w), x.bath(w[0], w[1], false), false);
        }
        CHECK.due("nothing was done", x.plan(0, 0, 50), 5);
        CHECK.due("bath(5, 1, true)", x.bath(5, 1, true), true);
        CHECK.due("another kind", x.plan(0, 0, 3), 1);
    }

    private static void rateTakesAndRefuses() {
        CureTown x = new CureTown();
        Texts.load(x, "cure a:;");
        for (int rank = 0; rank < 4; rank++) {
            x.guest(rank, 0, 0, 9, 0);
        }
        CHECK.due("rate(0, 999)", x.rate(0, 999), true);
        CHECK.due("rate(3, 1)", x.rate(3, 1), true);
        int[][] wrong = {{-1, 5}, {4, 5}, {0, -1}, {0, 1000}, {Integer.MAX_VALUE, 5}, {0, Integer.MIN_VALUE}};
        for (int[] w : wrong) {
            CHECK.due("rate" + java.util.Arrays.toString(w), x.rate(w[0], w[1]), false);
        }
        x.next();
        CHECK.due("tax 0", x.bill(0, 1), 999);
        CHECK.due("tax 1", x.bill(1, 1), 0);
        CHECK.due("tax 3", x.bill(3, 1), 1);
        CHECK.due("rate(0, 0)", x.rate(0, 0), true);
        x.next();
        CHECK.due("tax 0 then", x.bill(0, 1), 999);
        CHECK.due("tax 3 then", x.bill(3, 1), 2);
    }
}
