/** Promises 9 to 11: guest, leave, look. */
public final class GuestsTest {
    private static final Check CHECK = new Check();

    public static void main(String[] args) {
        guestRefusesWhatCantBe();
        eightCome();
        leaving();
        looking();
        CHECK.finish();
    }

    private static CureTown town() {
        CureTown x = new CureTown();
        Texts.load(x, "cure a: rest 1; cure b: rest 2;");
        return x;
    }

    private static void guestRefusesWhatCantBe() {
        CureTown x = new CureTown();
        CHECK.due("no regimen", x.guest(0, 0, 0, 1, 0), CureTown.NONE);
        x = town();
        x.next();
        x.next();
        int[][] wrong = {{-1, 0, 2, 3, 0}, {4, 0, 2, 3, 0}, {0, -1, 2, 3, 0}, {0, 2, 2, 3, 0}, {0, 0, 1, 3, 0},
            {0, 0, 3, 3, 0}, {0, 0, 4, 3, 0}, {0, 0, 2, 101, 0}, {0, 0, 100, 100, 0}, {0, 0, 100, 101, 0},
            {0, 0, 2, 3, -1}, {0, 0, 2, 3, 100}, {0, 0, Integer.MIN_VALUE, 3, 0}, {0, 0, 2, Integer.MAX_VALUE, 0},
            {0, 0, Integer.MAX_VALUE, Integer.MIN_VALUE, 0}, {Integer.MAX_VALUE, 0, 2, 3, 0}};
        for (int[] w : wrong) {
            CHECK.due("guest" + java.util.Arrays.toString(w), x.guest(w[0], w[1], w[2], w[3], w[4]), CureTown.NONE);
        }
        CHECK.due("none came", x.look(2), 0);
        CHECK.due("guest(3, 1, 2, 3, 99)", x.guest(3, 1, 2, 3, 99), 0);
        CHECK.due("guest(0, 0, 99, 100, 0)", x.guest(0, 0, 99, 100, 0), 1);
        CHECK.plans(x, 2, 0, 0, 1, 2);
        CHECK.due("the last day", x.plan(99, 1, 0), 1);
    }

    private static void eightCome() {
        CureTown x = town();
        for (int g = 0; g < 8; g++) {
            CHECK.due("guest " + g, x.guest(g % 4, g % 2, 0, 1, g), g);
        }
        CHECK.due("a ninth", x.guest(0, 0, 0, 1, 0), CureTown.NONE);
        x.next();
        CHECK.due("gone, but they were eight", x.guest(0, 0, 1, 2, 0), CureTown.NONE);
        CHECK.due("look(2)", x.look(2), 8);
    }

    private static void leaving() {
        CureTown x = town();
        CHECK.due("leave of nobody", x.leave(0, 1), false);
        x.guest(0, 0, 3, 8, 0);
        x.guest(0, 0, 0, 100, 0);
        int[][] wrong = {{-1, 5}, {2, 5}, {0, 3}, {0, 2}, {0, 9}, {0, -1}, {1, 0}, {1, 101}, {Integer.MAX_VALUE, 5},
            {0, Integer.MIN_VALUE}, {0, Integer.MAX_VALUE}};
        for (int[] w : wrong) {
            CHECK.due("leave" + java.util.Arrays.toString(w), x.leave(w[0], w[1]), false);
        }
        CHECK.due("there on 7", x.plan(7, 0, 0), 1);
        CHECK.due("leave(0, 8)", x.leave(0, 8), true);
        CHECK.due("leave(0, 6)", x.leave(0, 6), true);
        CHECK.due("not there on 6", x.plan(6, 0, 0), CureTown.NONE);
        CHECK.due("there on 5", x.plan(5, 0, 0), 1);
        CHECK.due("not later than told", x.leave(0, 7), false);
        for (int day = 0; day < 5; day++) {
            x.next();
        }
        CHECK.due("leave(0, 4) is past", x.leave(0, 4), false);
        CHECK.due("look(3)", x.look(3), 2);
        CHECK.due("leave(0, 5) is now", x.leave(0, 5), true);
        CHECK.due("look(3) then", x.look(3), 1);
        x.next();
        CHECK.due("nights", x.bill(0, 0), 2);
        CHECK.due("leave(0, 6) of one who has gone", x.leave(0, 6), false);
        CHECK.due("leave(0, 5) of one who has gone", x.leave(0, 5), false);
    }

    private static void looking() {
        CureTown x = town();
        x.spring(1, 5, 0, 10, 0);
        x.guest(0, 0, 0, 2, 0);
        x.guest(0, 0, 1, 2, 0);
        x.guest(0, 0, 50, 60, 0);
        int[] first = {0, 2, 3, 1, 0, 0, 0};
        int[] second = {1, 2, 3, 2, 5, 0, 0};
        int[] third = {2, 2, 3, 0, 7, 3, 0};
        CHECK.looks(x, first);
        x.next();
        CHECK.looks(x, second);
        x.sell(3);
        x.next();
        CHECK.looks(x, third);
        CHECK.due("look(7)", x.look(7), CureTown.NONE);
        CHECK.due("look(-1)", x.look(-1), CureTown.NONE);
        CHECK.due("look(max)", x.look(Integer.MAX_VALUE), CureTown.NONE);
    }
}
