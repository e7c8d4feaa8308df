/** Promises 16, 17 and 20: next, water, bill. */
public final class DaysTest {
    private static final Check CHECK = new Check();
    private static final int NONE = CureTown.NONE;

    public static void main(String[] args) {
        ninetyNineDaysEnd();
        waterIsCounted();
        firstAndLastQuarter();
        waterRefuses();
        billsAreCounted();
        billRefuses();
        CHECK.finish();
    }

    private static void ninetyNineDaysEnd() {
        CureTown x = new CureTown();
        Texts.load(x, "cure a:;");
        x.guest(0, 0, 0, 100, 0);
        x.rate(0, 1);
        x.spring(0, 1, 0, 10, 0);
        for (int day = 1; day <= 99; day++) {
            CHECK.due("next()", x.next(), day);
        }
        CHECK.due("next() on 99", x.next(), NONE);
        CHECK.due("look(0)", x.look(0), 99);
        CHECK.due("nights", x.bill(0, 0), 99);
        CHECK.due("given", x.water(0, 0), 990);
        CHECK.due("good", x.look(4), 19);
        CHECK.due("poured out", x.look(6), 80);
        CHECK.due("99 has not ended", x.bottles(0, 99), 0);
        CHECK.due("plan(99, 0, 0)", x.plan(99, 0, 0), 0);
    }

    private static void waterIsCounted() {
        CureTown x = new CureTown();
        Texts.load(x, "cure a: glass 0 glass 0 glass 1;");
        x.spring(0, 2, 4, 15, 1);
        x.spring(1, 1, 0, 48, 1);
        x.guest(0, 0, 0, 2, 9);
        x.guest(0, 0, 1, 2, 2);
        CHECK.waters(x, 0, 0, 0, 0, 0);
        x.next();
        CHECK.waters(x, 0, 22, 2, 2, 0);
        CHECK.waters(x, 1, 48, 1, 4, 7);
        x.next();
        CHECK.waters(x, 0, 44, 6, 3, 8);
        CHECK.waters(x, 1, 96, 2, 8, 14);
        x.spring(0, 1, 0, 9, 1);
        x.next();
        CHECK.waters(x, 0, 53, 6, 3, 17);
        x.spring(0, 9, 0, 48, 1);
        x.spring(0, 1, 0, 10, 1);
        x.next();
        CHECK.waters(x, 0, 63, 6, 4, 17);
        CHECK.waters(x, 2, 0, 0, 0, 0);
    }

    private static void firstAndLastQuarter() {
        CureTown x = new CureTown();
        Texts.load(x, "cure a: glass 3 until 47 glass 3;");
        x.spring(3, 1, 0, 48, 0);
        x.guest(0, 0, 0, 1, 0);
        x.next();
        CHECK.waters(x, 3, 48, 2, 4, 6);
    }

    private static void waterRefuses() {
        CureTown x = new CureTown();
        int[][] wrong = {{-1, 0}, {4, 0}, {0, -1}, {0, 4}, {Integer.MAX_VALUE, 0}, {0, Integer.MIN_VALUE}};
        for (int[] w : wrong) {
            CHECK.due("water" + java.util.Arrays.toString(w), x.water(w[0], w[1]), NONE);
        }
    }

    private static void billsAreCounted() {
        CureTown x = new CureTown();
        Texts.load(x, "cure a: glass 0 rest 1 glass 0 each 2 (bath 0 1) until 9;");
        x.spring(0, 1, 0, 48, 4);
        x.bath(0, 0, true);
        x.guest(2, 0, 0, 2, 8);
        x.guest(1, 0, 1, 4, 4);
        x.rate(2, 10);
        x.rate(1, 7);
        CHECK.bills(x, 0, 0, 0, 0, 0);
        x.next();
        CHECK.bills(x, 0, 1, 10, 2, 4);
        CHECK.bills(x, 1, 0, 0, 0, 0);
        x.rate(2, 500);
        x.rate(2, 30);
        x.next();
        CHECK.bills(x, 0, 2, 40, 4, 7);
        CHECK.bills(x, 1, 1, 7, 1, 2);
        x.next();
        x.next();
        x.next();
        CHECK.bills(x, 0, 2, 40, 4, 7);
        CHECK.bills(x, 1, 3, 21, 3, 7);
    }

    private static void billRefuses() {
        CureTown x = new CureTown();
        Texts.load(x, "cure a:;");
        x.guest(0, 0, 5, 6, 0);
        CHECK.bills(x, 0, 0, 0, 0, 0, NONE);
        int[][] wrong = {{-1, 0}, {1, 0}, {8, 0}, {0, -1}, {0, 4}, {Integer.MAX_VALUE, 0}, {0, Integer.MIN_VALUE}};
        for (int[] w : wrong) {
            CHECK.due("bill" + java.util.Arrays.toString(w), x.bill(w[0], w[1]), NONE);
        }
    }
}
