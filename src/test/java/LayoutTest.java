/** Promises 12 and 13: plan, taken. */
public final class LayoutTest {
    private static final Check CHECK = new Check();
    private static final int NONE = CureTown.NONE;

    public static void main(String[] args) {
        glasses();
        bound();
        baths();
        rests();
        until();
        each();
        lost();
        order();
        takenGlasses();
        asAllIsNow();
        wrongInputs();
        CHECK.finish();
    }

    private static void glasses() {
        CureTown x = Texts.town("cure a: glass 1 glass 1;");
        x.spring(1, 2, 5, 8, 0);
        for (int g = 0; g < 4; g++) {
            x.guest(0, 0, 0, 9, 0);
        }
        CHECK.plans(x, 0, 0, 0, 2, 7, 2, 0);
        CHECK.plans(x, 0, 0, 10, 5, 6, NONE);
        CHECK.plans(x, 0, 1, 10, 5, 6, NONE);
        CHECK.plans(x, 0, 2, 10, 7, NONE);
        CHECK.plans(x, 0, 2, 0, 1, 8, 1, 1);
        CHECK.plans(x, 0, 2, 50, NONE, NONE);
        CHECK.plans(x, 0, 2, 90, 0, NONE);
        CHECK.plans(x, 0, 3, 0, 1, 8, 1, 1);
        x.spring(1, 3, 0, 48, 0);
        CHECK.plans(x, 0, 3, 10, 2, 3, NONE);
    }

    private static void bound() {
        CureTown x = Texts.town("cure a: glass 0 rest 1 glass 1 glass 0 glass 2 rest 2;");
        x.spring(0, 9, 0, 48, 4);
        x.spring(1, 9, 0, 48, 5);
        x.guest(0, 0, 0, 9, 8);
        x.guest(0, 0, 0, 9, 9);
        x.guest(0, 0, 0, 9, 3);
        CHECK.plans(x, 0, 0, 0, 3, 3, 2, 1);
        CHECK.plans(x, 0, 0, 10, 0, 1, 2, NONE);
        CHECK.plans(x, 0, 1, 0, 3, 3, 2, 1);
        x.spring(2, 1, 0, 0, 9);
        CHECK.plans(x, 0, 0, 0, 4, 5, 2, 0);
        CHECK.plans(x, 0, 0, 90, 0, 2, 0, 2, NONE);
        CHECK.plans(x, 0, 1, 10, 0, 1, 2, 3, NONE);
        CHECK.plans(x, 0, 2, 0, 2, 3, 0, 0);
    }

    private static void baths() {
        CureTown x = Texts.town("cure a: bath 1 3; cure b: rest 1 bath 1 1; cure c: bath 1 16 bath 1 16 bath 1 16 bath 1 1;");
        x.bath(1, 0, true);
        x.bath(2, 1, false);
        x.bath(3, 1, true);
        x.guest(0, 0, 0, 9, 0);
        x.guest(0, 0, 0, 9, 0);
        CHECK.plans(x, 0, 0, 0, 1, 3, 0, 0);
        CHECK.plans(x, 0, 0, 50, 3, NONE);
        CHECK.plans(x, 0, 0, 90, 1, NONE);
        CHECK.plans(x, 0, 1, 10, 3, NONE);
        x.guest(0, 1, 0, 9, 0);
        x.bath(2, 1, true);
        CHECK.plans(x, 0, 0, 50, 2);
        CHECK.plans(x, 0, 1, 50, 3);
        CHECK.plans(x, 0, 2, 10, 0, 3);
        CHECK.plans(x, 0, 2, 50, NONE, 2);
        x.bath(5, 1, true);
        CHECK.plans(x, 0, 2, 10, 0, 1);
        CHECK.plans(x, 0, 2, 50, NONE, 5);
        x.guest(0, 2, 10, 20, 0);
        CHECK.plans(x, 10, 3, 0, 3, 48, 0, 1);
        CHECK.plans(x, 10, 3, 50, 2, 2, 2, NONE);
        gaps();
        noRowsOfAnotherDay();
    }

    private static void noRowsOfAnotherDay() {
        CureTown x = Texts.town("cure a: each 2 (bath 0 1 bath 0 1);");
        x.bath(0, 0, true);
        x.guest(0, 0, 0, 9, 0);
        CHECK.plans(x, 2, 0, 50, 0, 0, NONE);
        CHECK.plans(x, 1, 0, 50, NONE, NONE);
        CHECK.plans(x, 1, 0, 10, NONE, NONE);
        CHECK.plans(x, 1, 0, 90, NONE, NONE);
    }

    private static void gaps() {
        CureTown x = Texts.town("cure a: rest 2 bath 0 2 rest 3 bath 0 1; cure b: bath 0 3; cure c: bath 0 2;");
        x.bath(0, 0, true);
        x.guest(0, 0, 0, 9, 0);
        x.guest(1, 1, 0, 9, 0);
        x.guest(2, 2, 0, 9, 0);
        CHECK.plans(x, 0, 0, 10, 0, 2, 4, 7, NONE);
        CHECK.plans(x, 0, 1, 10, 4, NONE);
        CHECK.plans(x, 0, 2, 10, 0, NONE);
    }

    private static void rests() {
        CureTown x = Texts.town("cure a: rest 16 rest 16 rest 15 rest 2 rest 1; cure b: rest 16 rest 16 rest 16;");
        x.guest(0, 0, 0, 9, 0);
        x.guest(0, 1, 0, 9, 0);
        CHECK.plans(x, 0, 0, 0, 3, 47, 0, 1);
        CHECK.plans(x, 0, 0, 10, 0, 16, 32, NONE);
        CHECK.plans(x, 0, 0, 50, NONE, NONE, NONE);
        CHECK.plans(x, 0, 0, 90, 2, 2, 2, NONE);
        CHECK.plans(x, 0, 1, 0, 3, 48, 0, 0);
        thirty();
    }

    private static void thirty() {
        CureTown x = Texts.town("cure a:" + Texts.times("rest 1 ", 30) + ";");
        x.guest(0, 0, 0, 9, 0);
        CHECK.plans(x, 0, 0, 0, 30, 30, 0, 0);
        CHECK.plans(x, 0, 0, 38, 28, 29, NONE);
        CHECK.plans(x, 0, 0, 118, 2, 2, NONE);
    }

    private static void until() {
        CureTown x = Texts.town("cure a: until 5 rest 1 until 3 rest 1 until 47 rest 1 until 9; cure b: until 47;");
        x.guest(0, 0, 0, 9, 0);
        x.guest(0, 1, 0, 9, 0);
        CHECK.plans(x, 0, 0, 0, 3, 48, 0, 0);
        CHECK.plans(x, 0, 0, 10, 5, 6, 47, NONE);
        CHECK.plans(x, 0, 1, 0, 0, 0, 0, 0);
    }

    private static void each() {
        CureTown x = Texts.town("cure a: each 2 (rest 1 each 3 (rest 2) rest 4) each 5 () rest 8 each 9 (rest 16);");
        x.guest(0, 0, 0, 100, 0);
        CHECK.plans(x, 0, 0, 0, 5, 31, 0, 0);
        CHECK.plans(x, 1, 0, 0, 1, 8, 0, 0);
        CHECK.plans(x, 2, 0, 0, 3, 13, 0, 0);
        CHECK.plans(x, 3, 0, 0, 1, 8, 0, 0);
        CHECK.plans(x, 6, 0, 0, 4, 15, 0, 0);
        CHECK.plans(x, 9, 0, 0, 2, 24, 0, 0);
        CHECK.plans(x, 99, 0, 0, 2, 24, 0, 0);
        CHECK.plans(x, 2, 0, 10, 0, 1, 5, NONE);
    }

    private static void lost() {
        CureTown x = Texts.town("cure a: rest 1 bath 0 1 rest 1 glass 0; cure b: each 2 (bath 0 1) rest 1; cure c: until 40 rest 9 until 1;");
        x.spring(0, 1, 0, 48, 0);
        x.guest(0, 0, 0, 9, 0);
        x.guest(0, 1, 0, 9, 0);
        x.guest(0, 2, 0, 9, 0);
        CHECK.plans(x, 0, 0, 0, 1, 1, 0, 1);
        CHECK.plans(x, 0, 1, 0, 0, 0, 0, 1);
        CHECK.plans(x, 1, 1, 0, 1, 1, 0, 0);
        CHECK.plans(x, 0, 2, 0, 0, 0, 0, 1);
        x = Texts.town("cure a: until 47 glass 0 glass 0;");
        x.spring(0, 9, 0, 48, 1);
        x.guest(0, 0, 0, 9, 1);
        x.guest(0, 0, 0, 9, 2);
        CHECK.plans(x, 0, 0, 0, 1, 48, 1, 0);
        CHECK.plans(x, 0, 1, 0, 1, 48, 1, 1);
    }

    private static void order() {
        CureTown x = Texts.town("cure a: glass 0;");
        x.spring(0, 1, 0, 48, 0);
        int[] ranks = {3, 1, 2, 1, 0, 3, 0, 2};
        int[] places = {6, 2, 4, 3, 0, 7, 1, 5};
        for (int rank : ranks) {
            x.guest(rank, 0, 0, 9, 0);
        }
        for (int g = 0; g < 8; g++) {
            CHECK.plans(x, 0, g, 10, places[g]);
        }
        x.leave(4, 5);
        CHECK.plans(x, 5, 4, 0, NONE);
        CHECK.plans(x, 5, 6, 10, 0);
        CHECK.plans(x, 5, 5, 10, 6);
    }

    private static void takenGlasses() {
        CureTown x = Texts.town("cure a: glass 2 glass 2;");
        x.spring(2, 2, 1, 40, 0);
        for (int g = 0; g < 3; g++) {
            x.guest(0, 0, 4, 6, 0);
        }
        int[] want = {0, 2, 2, 1, 1, 0};
        for (int q = 0; q < want.length; q++) {
            CHECK.due("taken(5, 2, " + q + ")", x.taken(5, 2, q), want[q]);
            CHECK.due("taken(3, 2, " + q + ")", x.taken(3, 2, q), 0);
            CHECK.due("taken(5, 1, " + q + ")", x.taken(5, 1, q), 0);
        }
        CHECK.due("taken(99, 3, 47)", x.taken(99, 3, 47), 0);
        int[][] wrong = {{-1, 0, 0}, {100, 0, 0}, {0, -1, 0}, {0, 4, 0}, {0, 0, -1}, {0, 0, 48},
            {Integer.MAX_VALUE, 0, 0}, {0, Integer.MAX_VALUE, 0}, {0, 0, Integer.MIN_VALUE}};
        for (int[] w : wrong) {
            CHECK.due("taken" + java.util.Arrays.toString(w), x.taken(w[0], w[1], w[2]), NONE);
        }
        x.next();
        CHECK.due("taken of a day that ended", x.taken(0, 0, 0), NONE);
    }

    private static void asAllIsNow() {
        CureTown x = Texts.town("cure a: glass 0 bath 0 1;");
        x.guest(1, 0, 0, 9, 9);
        CHECK.plans(x, 7, 0, 0, 0, 0, 0, 1);
        x.spring(0, 1, 0, 48, 9);
        CHECK.plans(x, 7, 0, 0, 1, 1, 1, 1);
        x.bath(4, 0, true);
        CHECK.plans(x, 7, 0, 0, 2, 2, 1, 0);
        x.guest(0, 0, 7, 9, 9);
        CHECK.plans(x, 7, 0, 0, 2, 3, 1, 0);
        CHECK.plans(x, 6, 0, 0, 2, 2, 1, 0);
        x.keep(true);
        CHECK.due("plan leaves the day alone", x.look(0), 0);
        CHECK.due("plan counts nothing", x.bill(0, 2), 0);
        // Told for best or not, a plan is in its order.
        CureTown y = Texts.town("cure a: glass 0 rest 9; cure b: until 1 glass 0 rest 1;");
        y.spring(0, 1, 0, 1, 0);
        y.guest(0, 1, 0, 9, 0);
        y.keep(true);
        CHECK.plans(y, 0, 0, 0, 0, 0, 0, 1);
    }

    private static void wrongInputs() {
        CureTown x = Texts.town("cure a: rest 1;");
        x.guest(0, 0, 0, 100, 0);
        x.guest(0, 0, 3, 5, 0);
        int[] whats = {-1, 4, 9, 11, 49, 51, 89, 91, 120, Integer.MAX_VALUE, Integer.MIN_VALUE};
        for (int what : whats) {
            CHECK.plans(x, 0, 0, what, NONE);
        }
        CHECK.plans(x, 99, 0, 0, 1);
        int[][] wrong = {{-1, 0}, {100, 0}, {0, -1}, {0, 2}, {0, 1}, {2, 1}, {5, 1}, {0, 8}, {Integer.MAX_VALUE, 0},
            {0, Integer.MAX_VALUE}, {0, Integer.MIN_VALUE}};
        for (int[] w : wrong) {
            CHECK.plans(x, w[0], w[1], 0, NONE);
        }
        CHECK.plans(x, 3, 1, 0, 1);
        CHECK.plans(x, 4, 1, 0, 1);
        x.next();
        CHECK.plans(x, 0, 0, 0, NONE);
        CHECK.plans(x, 1, 0, 0, 1);
    }
}
