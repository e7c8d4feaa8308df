/** Promises 18 and 19: bottles, sell. */
public final class BottlesTest {
    private static final Check CHECK = new Check();
    private static final int NONE = CureTown.NONE;

    public static void main(String[] args) {
        bottlesAreGoodForTwentyDays();
        bottlesRefuses();
        theOldestAreSoldFirst();
        sellRefuses();
        whatIsSoldIsNotPouredOut();
        CHECK.finish();
    }

    private static void bottlesAreGoodForTwentyDays() {
        CureTown x = new CureTown();
        x.next();
        x.spring(2, 3, 0, 11, 0);
        CHECK.due("not filled yet", x.bottles(2, 1), 0);
        x.next();
        x.spring(2, 0, 0, 48, 0);
        for (int day = 2; day <= 20; day++) {
            CHECK.due("bottles(2, 1) on " + x.look(0), x.bottles(2, 1), 3);
            CHECK.due("look(4) on " + x.look(0), x.look(4), 3);
            CHECK.due("look(6) on " + x.look(0), x.look(6), 0);
            x.next();
        }
        CHECK.due("the day", x.look(0), 21);
        CHECK.due("bottles(2, 1) then", x.bottles(2, 1), 0);
        CHECK.due("look(4) then", x.look(4), 0);
        CHECK.due("look(6) then", x.look(6), 3);
        CHECK.due("sell then", x.sell(1), 0);
        CHECK.due("filled all the same", x.water(2, 2), 3);
    }

    private static void bottlesRefuses() {
        CureTown x = new CureTown();
        CHECK.due("bottles(0, 0)", x.bottles(0, 0), 0);
        CHECK.due("bottles(3, 99)", x.bottles(3, 99), 0);
        int[][] wrong = {{-1, 0}, {4, 0}, {0, -1}, {0, 100}, {Integer.MAX_VALUE, 0}, {0, Integer.MIN_VALUE}};
        for (int[] w : wrong) {
            CHECK.due("bottles" + java.util.Arrays.toString(w), x.bottles(w[0], w[1]), NONE);
        }
    }

    private static CureTown cellar() {
        CureTown x = new CureTown();
        x.spring(0, 2, 0, 10, 0);
        x.spring(1, 5, 0, 10, 0);
        x.spring(3, 1, 0, 10, 0);
        x.next();
        x.next();
        return x;
    }

    private static void cellarHas(CureTown x, int... want) {
        int[] springs = {0, 1, 3, 0, 1, 3};
        for (int i = 0; i < want.length; i++) {
            CHECK.due("bottles(" + springs[i] + ", " + i / 3 + ")", x.bottles(springs[i], i / 3), want[i]);
        }
    }

    private static void theOldestAreSoldFirst() {
        CureTown x = cellar();
        cellarHas(x, 2, 5, 1, 2, 5, 1);
        CHECK.due("sell(3)", x.sell(3), 3);
        cellarHas(x, 0, 4, 1, 2, 5, 1);
        CHECK.due("sell(5)", x.sell(5), 5);
        cellarHas(x, 0, 0, 0, 2, 5, 1);
        CHECK.due("sell(1)", x.sell(1), 1);
        cellarHas(x, 0, 0, 0, 1, 5, 1);
        CHECK.due("look(5)", x.look(5), 9);
        CHECK.due("look(4)", x.look(4), 7);
        CHECK.due("sell(999)", x.sell(999), 7);
        CHECK.due("look(5) then", x.look(5), 16);
        CHECK.due("look(4) then", x.look(4), 0);
        CHECK.due("sell(1) of none", x.sell(1), 0);
    }

    private static void sellRefuses() {
        CureTown x = cellar();
        int[] wrong = {0, -1, 1000, Integer.MAX_VALUE, Integer.MIN_VALUE};
        for (int n : wrong) {
            CHECK.due("sell(" + n + ")", x.sell(n), NONE);
        }
        cellarHas(x, 2, 5, 1, 2, 5, 1);
        CHECK.due("look(5)", x.look(5), 0);
    }

    private static void whatIsSoldIsNotPouredOut() {
        CureTown x = cellar();
        x.sell(6);
        for (int day = 2; day < 20; day++) {
            x.next();
        }
        CHECK.due("look(6) on 20", x.look(6), 2);
        x.next();
        CHECK.due("look(6) on 21", x.look(6), 10);
    }
}
