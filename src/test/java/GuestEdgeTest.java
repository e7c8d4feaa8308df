/** The boundaries of promises 9 to 11: guest, leave, look. */
public final class GuestEdgeTest {
    private static final Check CHECK = new Check();
    private static final int MIN = Integer.MIN_VALUE;
    private static final int MAX = Integer.MAX_VALUE;

    public static void main(String[] args) {
        numberedAsTheyCome();
        thereWereEight();
        whichRank();
        whichRegimen();
        goingNotBehindComing();
        goingAHundredAtMost();
        comingAheadOfNow();
        comingOnTheLastDay();
        whichBound();
        thereUntilAhead();
        leaveOfWhom();
        leaveNowOrLater();
        leaveBehindComing();
        leaveNotLaterThanTold();
        leaveOnAHundred();
        leaveOfOneWhoHasGone();
        lookAtWhat();
        lookAtThoseThere();
        CHECK.finish();
    }

    private static CureTown town() {
        return Texts.town("cure a: rest 1; cure b: rest 2; cure c: glass 0;");
    }

    private static void numberedAsTheyCome() {
        CHECK.about("GUESTS 0 .. 7, numbered as they come");
        CureTown x = town();
        for (int g = 0; g < 8; g++) {
            CHECK.none("a guest who can't be", x.guest(4, 0, 0, 1, 0));
            CHECK.due("look(2)", x.look(2), g);
            CHECK.none("bill(" + g + ", 0)", x.bill(g, 0));
            CHECK.due("guest " + g, x.guest(g % 4, g % 3, 50 - g, 60 + g, 0), g);
            CHECK.due("bill(" + g + ", 0)", x.bill(g, 0), 0);
        }
        CHECK.due("look(2)", x.look(2), 8);
    }

    private static void thereWereEight() {
        CHECK.about("9: NONE, and nothing is done: there were 8");
        CureTown x = town();
        for (int g = 0; g < 7; g++) {
            x.guest(0, 0, 0, 1, 0);
        }
        CHECK.due("the eighth", x.guest(3, 1, 0, 1, 0), 7);
        CHECK.none("the ninth", x.guest(0, 0, 0, 1, 0));
        CHECK.due("look(2)", x.look(2), 8);
        CHECK.due("look(3)", x.look(3), 8);
        x.next();
        CHECK.due("all have gone, look(3)", x.look(3), 0);
        CHECK.none("there were 8 all the same", x.guest(0, 0, 1, 2, 0));
        CHECK.due("look(2)", x.look(2), 8);
        CHECK.bills(x, 7, 1, 0, 0, 1);
        CHECK.none("bill(8, 0)", x.bill(8, 0));
    }

    private static void whichRank() {
        CHECK.about("a RANK 0 .. 3");
        CureTown x = town();
        for (int rank : new int[] {-1, 4, MIN, MAX}) {
            CHECK.none("rank " + rank, x.guest(rank, 0, 0, 1, 0));
        }
        CHECK.due("rank 3", x.guest(3, 0, 0, 1, 0), 0);
        CHECK.due("rank 0", x.guest(0, 0, 0, 1, 0), 1);
        x.rate(0, 5);
        x.rate(3, 7);
        x.next();
        CHECK.due("tax of rank 3", x.bill(0, 1), 7);
        CHECK.due("tax of rank 0", x.bill(1, 1), 5);
    }

    private static void whichRegimen() {
        CHECK.about("a REGIMEN that is there");
        CureTown x = new CureTown();
        CHECK.none("none is there", x.guest(0, 0, 0, 1, 0));
        Texts.load(x, "cure a: rest 1;");
        CHECK.none("1 of 1", x.guest(0, 1, 0, 1, 0));
        CHECK.none("-1", x.guest(0, -1, 0, 1, 0));
        CHECK.none("min", x.guest(0, MIN, 0, 1, 0));
        CHECK.none("max", x.guest(0, MAX, 0, 1, 0));
        CHECK.due("0 of 1", x.guest(0, 0, 0, 1, 0), 0);
        Texts.load(x, "cure b: rest 2;cure c:;cure d:;cure e:;cure f:;cure g:;cure h: rest 8;");
        CHECK.none("8 of 8", x.guest(0, 8, 0, 1, 0));
        CHECK.due("7 of 8", x.guest(0, 7, 0, 1, 0), 1);
        CHECK.plans(x, 0, 0, 1, 1);
        CHECK.plans(x, 0, 1, 1, 8);
    }

    private static void goingNotBehindComing() {
        CHECK.about("9: going not behind coming");
        CureTown x = town();
        CHECK.none("5, 5", x.guest(0, 0, 5, 5, 0));
        CHECK.none("5, 4", x.guest(0, 0, 5, 4, 0));
        CHECK.none("5, 0", x.guest(0, 0, 5, 0, 0));
        CHECK.none("5, -1", x.guest(0, 0, 5, -1, 0));
        CHECK.none("5, min", x.guest(0, 0, 5, MIN, 0));
        CHECK.none("0, 0", x.guest(0, 0, 0, 0, 0));
        CHECK.none("max, min", x.guest(0, 0, MAX, MIN, 0));
        CHECK.due("look(2)", x.look(2), 0);
        CHECK.due("5, 6", x.guest(0, 0, 5, 6, 0), 0);
        CHECK.due("0, 1", x.guest(0, 0, 0, 1, 0), 1);
    }

    private static void goingAHundredAtMost() {
        CHECK.about("9: going, 100 at most");
        CureTown x = town();
        CHECK.none("0, 101", x.guest(0, 0, 0, 101, 0));
        CHECK.none("0, max", x.guest(0, 0, 0, MAX, 0));
        CHECK.none("99, 101", x.guest(0, 0, 99, 101, 0));
        CHECK.due("0, 100", x.guest(0, 0, 0, 100, 0), 0);
        CHECK.due("0, 99", x.guest(0, 0, 0, 99, 0), 1);
        CHECK.plans(x, 99, 0, 0, 1);
        CHECK.plans(x, 99, 1, 0, CureTown.NONE);
        CHECK.plans(x, 98, 1, 0, 1);
    }

    private static void comingAheadOfNow() {
        CHECK.about("9: coming ahead of now");
        CureTown x = town();
        CHECK.none("-1 on day 0", x.guest(0, 0, -1, 5, 0));
        CHECK.none("min on day 0", x.guest(0, 0, MIN, 5, 0));
        CHECK.due("0 on day 0", x.guest(0, 0, 0, 5, 0), 0);
        x.next();
        CHECK.none("0 on day 1", x.guest(0, 0, 0, 5, 0));
        CHECK.due("1 on day 1", x.guest(0, 0, 1, 5, 0), 1);
        CHECK.due("2 on day 1", x.guest(0, 0, 2, 5, 0), 2);
        CHECK.due("there now", x.look(3), 2);
    }

    private static void comingOnTheLastDay() {
        CHECK.about("DAYS 0 .. 99, of coming");
        CureTown x = town();
        CHECK.none("100, 100", x.guest(0, 0, 100, 100, 0));
        CHECK.none("100, 101", x.guest(0, 0, 100, 101, 0));
        CHECK.none("99, 99", x.guest(0, 0, 99, 99, 0));
        CHECK.due("99, 100", x.guest(0, 0, 99, 100, 0), 0);
        CHECK.plans(x, 98, 0, 0, CureTown.NONE);
        CHECK.plans(x, 99, 0, 0, 1);
        Texts.days(x, 99);
        CHECK.none("98 on day 99", x.guest(0, 0, 98, 100, 0));
        CHECK.due("99 on day 99", x.guest(0, 0, 99, 100, 0), 1);
        CHECK.due("look(3)", x.look(3), 2);
    }

    private static void whichBound() {
        CHECK.about("a BOUND 0 .. 99");
        CureTown x = town();
        x.spring(0, 9, 0, 48, 0);
        for (int bound : new int[] {-1, 100, MIN, MAX}) {
            CHECK.none("bound " + bound, x.guest(0, 2, 0, 1, bound));
        }
        CHECK.due("bound 0", x.guest(0, 2, 0, 1, 0), 0);
        CHECK.due("bound 99", x.guest(0, 2, 0, 1, 99), 1);
        CHECK.plans(x, 0, 0, 2, 1);
        CHECK.plans(x, 0, 1, 2, 1);
    }

    private static void thereUntilAhead() {
        CHECK.about("there from the one until ahead of the other");
        CureTown x = town();
        x.guest(0, 1, 3, 6, 0);
        int[] done = {CureTown.NONE, CureTown.NONE, CureTown.NONE, 1, 1, 1, CureTown.NONE, CureTown.NONE};
        for (int day = 0; day < done.length; day++) {
            CHECK.plans(x, day, 0, 0, done[day]);
        }
        int nights = 0;
        for (int day = 0; day < done.length; day++) {
            CHECK.due("look(3) on " + day, x.look(3), done[day] == 1 ? 1 : 0);
            x.next();
            nights += done[day] == 1 ? 1 : 0;
            CHECK.due("nights up to " + day, x.bill(0, 0), nights);
        }
    }

    private static void leaveOfWhom() {
        CHECK.about("10: GUEST g");
        CureTown x = town();
        CHECK.due("leave(0, 5) of none", x.leave(0, 5), false);
        x.guest(0, 0, 0, 9, 0);
        x.guest(0, 0, 0, 9, 0);
        for (int g : new int[] {-1, 2, 7, 8, MIN, MAX}) {
            CHECK.due("leave(" + g + ", 5)", x.leave(g, 5), false);
        }
        CHECK.due("leave(1, 5)", x.leave(1, 5), true);
        CHECK.plans(x, 5, 0, 0, 1);
        CHECK.plans(x, 5, 1, 0, CureTown.NONE);
        CHECK.plans(x, 4, 1, 0, 1);
        CHECK.due("leave(0, 6)", x.leave(0, 6), true);
        CHECK.plans(x, 5, 0, 0, 1);
        CHECK.plans(x, 6, 0, 0, CureTown.NONE);
    }

    private static void leaveNowOrLater() {
        CHECK.about("10: now or later");
        CureTown x = town();
        x.guest(0, 0, 0, 9, 0);
        x.guest(0, 0, 0, 9, 0);
        Texts.days(x, 4);
        CHECK.due("leave(0, 3) on 4", x.leave(0, 3), false);
        CHECK.due("leave(0, -1) on 4", x.leave(0, -1), false);
        CHECK.due("leave(0, min) on 4", x.leave(0, MIN), false);
        CHECK.due("look(3)", x.look(3), 2);
        CHECK.due("leave(0, 4) on 4", x.leave(0, 4), true);
        CHECK.due("look(3)", x.look(3), 1);
        CHECK.plans(x, 4, 0, 0, CureTown.NONE);
        CHECK.due("leave(1, 5) on 4", x.leave(1, 5), true);
        CHECK.due("look(3)", x.look(3), 1);
        x.next();
        CHECK.due("nights of the one who went", x.bill(0, 0), 4);
        CHECK.due("nights of the other", x.bill(1, 0), 5);
        CHECK.due("look(3)", x.look(3), 0);
    }

    private static void leaveBehindComing() {
        CHECK.about("10: behind coming");
        CureTown x = town();
        x.guest(0, 0, 0, 9, 0);
        x.guest(0, 0, 5, 9, 0);
        CHECK.due("leave(0, 0), who came on 0", x.leave(0, 0), false);
        CHECK.due("leave(1, 5), who comes on 5", x.leave(1, 5), false);
        CHECK.due("leave(1, 4), who comes on 5", x.leave(1, 4), false);
        CHECK.plans(x, 8, 1, 0, 1);
        CHECK.due("leave(0, 1)", x.leave(0, 1), true);
        CHECK.due("leave(1, 6)", x.leave(1, 6), true);
        CHECK.plans(x, 0, 0, 0, 1);
        CHECK.plans(x, 1, 0, 0, CureTown.NONE);
        CHECK.plans(x, 5, 1, 0, 1);
        CHECK.plans(x, 6, 1, 0, CureTown.NONE);
    }

    private static void leaveNotLaterThanTold() {
        CHECK.about("10: not later than told");
        CureTown x = town();
        x.guest(0, 0, 0, 9, 0);
        CHECK.due("leave(0, 10)", x.leave(0, 10), false);
        CHECK.due("leave(0, max)", x.leave(0, MAX), false);
        CHECK.plans(x, 9, 0, 0, CureTown.NONE);
        CHECK.due("leave(0, 9)", x.leave(0, 9), true);
        CHECK.plans(x, 8, 0, 0, 1);
        CHECK.due("leave(0, 6)", x.leave(0, 6), true);
        CHECK.due("leave(0, 7), told for 6 then", x.leave(0, 7), false);
        CHECK.due("leave(0, 9), told for 6 then", x.leave(0, 9), false);
        CHECK.plans(x, 6, 0, 0, CureTown.NONE);
        CHECK.plans(x, 5, 0, 0, 1);
        CHECK.due("leave(0, 6) again", x.leave(0, 6), true);
    }

    private static void leaveOnAHundred() {
        CHECK.about("10: told for 100, the most that can be");
        CureTown x = town();
        x.guest(0, 0, 0, 100, 0);
        CHECK.due("leave(0, 101)", x.leave(0, 101), false);
        CHECK.due("leave(0, 100)", x.leave(0, 100), true);
        CHECK.plans(x, 99, 0, 0, 1);
        CHECK.due("leave(0, 99)", x.leave(0, 99), true);
        CHECK.plans(x, 99, 0, 0, CureTown.NONE);
        CHECK.plans(x, 98, 0, 0, 1);
    }

    private static void leaveOfOneWhoHasGone() {
        CHECK.about("10: one who has gone can't go later, nor ahead of now");
        CureTown x = town();
        x.guest(0, 0, 0, 2, 0);
        Texts.days(x, 3);
        for (int day = 0; day <= 5; day++) {
            CHECK.due("leave(0, " + day + ") on 3", x.leave(0, day), false);
        }
        CHECK.bills(x, 0, 2, 0, 0, 2);
        CHECK.due("look(3)", x.look(3), 0);
    }

    private static void lookAtWhat() {
        CHECK.about("11: NONE for another what");
        CureTown x = town();
        x.spring(0, 1, 0, 30, 0);
        x.guest(0, 0, 0, 9, 0);
        x.guest(0, 0, 9, 10, 0);
        Texts.days(x, 1);
        x.sell(1);
        CHECK.looks(x, 1, 3, 2, 1, 2, 1, 0);
        for (int what : new int[] {-1, 7, 8, MIN, MAX}) {
            CHECK.none("look(" + what + ")", x.look(what));
        }
    }

    private static void lookAtThoseThere() {
        CHECK.about("11: 2 GUESTS that came, 3 those there now");
        CureTown x = town();
        CHECK.looks(x, 0, 3, 0, 0);
        x.guest(0, 0, 0, 1, 0);
        x.guest(0, 0, 1, 2, 0);
        x.guest(0, 0, 0, 2, 0);
        CHECK.looks(x, 0, 3, 3, 2);
        x.next();
        CHECK.looks(x, 1, 3, 3, 2);
        x.next();
        CHECK.looks(x, 2, 3, 3, 0);
    }
}
