/** The boundaries of promises 14 and 15: best, keep. */
public final class BestEdgeTest {
    private static final Check CHECK = new Check();
    private static final int NONE = CureTown.NONE;
    private static final int MIN = Integer.MIN_VALUE;
    private static final int MAX = Integer.MAX_VALUE;

    public static void main(String[] args) {
        nobodyThere();
        oneThere();
        sixThere();
        sevenThere();
        mostThatIsDone();
        leastSumOfEnds();
        firstByGuests();
        theLastOfAllOrders();
        rankDoesNotTell();
        bestOfWhichDay();
        bestOfWhat();
        keepWithNobody();
        keepWithSixAndSeven();
        keepBothWays();
        keepForThisDay();
        keptOrderCounts();
        keepTheLastDay();
        moreThanSixAsItEnds();
        keptWhileASeventhWasThere();
        bestIsOnlyAsked();
        CHECK.finish();
    }

    private static void bests(CureTown x, int day, int done, int ends, int... order) {
        CHECK.due("best(" + day + ", 0)", x.best(day, 0), done);
        CHECK.due("best(" + day + ", 1)", x.best(day, 1), ends);
        for (int i = 0; i < order.length; i++) {
            CHECK.due("best(" + day + ", " + (10 + i) + ")", x.best(day, 10 + i), order[i]);
        }
        CHECK.none("best(" + day + ", behind)", x.best(day, 10 + order.length));
    }

    /** In its order guest 0 holds the only bath all day; best is guest 1 ahead: 2 + 2 are done, not 3 + 0. */
    private static CureTown crowded(int to) {
        CureTown x = Texts.town("cure a: bath 0 16 bath 0 16 bath 0 16; cure b: bath 0 1 rest 1; cure n:;");
        x.bath(0, 0, true);
        x.guest(0, 0, 0, to, 0);
        x.guest(1, 1, 0, to, 0);
        return x;
    }

    private static void doneAre(CureTown x, int first, int second) {
        CHECK.due("bill(0, 3)", x.bill(0, 3), first);
        CHECK.due("bill(1, 3)", x.bill(1, 3), second);
    }

    private static void nobodyThere() {
        CHECK.about("BEST ORDER of nobody");
        CureTown x = new CureTown();
        bests(x, 0, 0, 0);
        bests(x, 99, 0, 0);
    }

    private static void oneThere() {
        CHECK.about("BEST ORDER of one");
        CureTown x = Texts.town("cure a: rest 3; cure b:;");
        x.guest(0, 1, 5, 6, 0);
        x.guest(0, 0, 3, 4, 0);
        bests(x, 2, 0, 0);
        bests(x, 3, 1, 3, 1);
        bests(x, 4, 0, 0);
        bests(x, 5, 0, 0, 0);
    }

    private static CureTown queue(int guests) {
        CureTown x = Texts.town("cure a: glass 0;");
        x.spring(0, 1, 0, 48, 0);
        for (int g = 0; g < guests; g++) {
            x.guest(0, 0, 0, 9, 0);
        }
        return x;
    }

    private static void sixThere() {
        CHECK.about("BEST ORDER (at most 6 GUESTS there)");
        bests(queue(5), 0, 5, 15, 0, 1, 2, 3, 4);
        bests(queue(6), 0, 6, 21, 0, 1, 2, 3, 4, 5);
    }

    private static void sevenThere() {
        CHECK.about("14: NONE: more than 6 are there");
        CureTown x = queue(6);
        x.guest(0, 0, 4, 6, 0);
        x.guest(0, 0, 5, 6, 0);
        for (int what : new int[] {0, 1, 10, 15, 16}) {
            CHECK.none("seven, best(4, " + what + ")", x.best(4, what));
            CHECK.none("eight, best(5, " + what + ")", x.best(5, what));
        }
        bests(x, 3, 6, 21, 0, 1, 2, 3, 4, 5);
        bests(x, 6, 6, 21, 0, 1, 2, 3, 4, 5);
        x.leave(2, 4);
        bests(x, 4, 6, 21, 0, 1, 3, 4, 5, 6);
        CHECK.none("seven, best(5, 0)", x.best(5, 0));
        x.leave(0, 4);
        bests(x, 4, 5, 15, 1, 3, 4, 5, 6);
        bests(x, 5, 6, 21, 1, 3, 4, 5, 6, 7);
    }

    private static void mostThatIsDone() {
        CHECK.about("the most that is DONE, all together");
        CureTown x = crowded(9);
        bests(x, 0, 4, 2 + 33, 1, 0);
        CHECK.plans(x, 0, 0, 0, 3, 48);
        CHECK.plans(x, 0, 1, 0, 0, 0);
        // There is one glass: who is ahead has it. Guest 0 would end sooner, guest 1 has one more done.
        CureTown y = Texts.town("cure a: glass 0; cure b: glass 0 rest 16;");
        y.spring(0, 1, 0, 1, 0);
        y.guest(0, 0, 0, 9, 0);
        y.guest(0, 1, 0, 9, 0);
        bests(y, 0, 2, 17, 1, 0);
    }

    private static void leastSumOfEnds() {
        CHECK.about("of these with the least sum of ENDS");
        CureTown x = Texts.town("cure a: bath 0 3; cure b: bath 0 2;");
        x.bath(0, 0, true);
        x.guest(0, 0, 0, 9, 0);
        x.guest(0, 1, 0, 9, 0);
        bests(x, 0, 2, 2 + 5, 1, 0);
        // An end that is less by one is enough.
        CureTown y = Texts.town("cure a: bath 0 2; cure b: bath 0 2 rest 1; cure c: bath 0 1;");
        y.bath(0, 0, true);
        y.guest(0, 0, 0, 9, 0);
        y.guest(0, 1, 0, 9, 0);
        bests(y, 0, 3, 2 + 5, 0, 1);
        y.guest(0, 2, 0, 9, 0);
        bests(y, 0, 4, 1 + 3 + 6, 2, 0, 1);
    }

    private static void firstByGuests() {
        CHECK.about("of these the first by GUESTS");
        CureTown x = Texts.town("cure a: bath 0 2; cure b: rest 1; cure c: bath 0 1;");
        x.bath(0, 0, true);
        x.guest(3, 0, 0, 9, 0);
        x.guest(0, 0, 0, 9, 0);
        bests(x, 0, 2, 6, 0, 1);
        x.guest(2, 1, 0, 9, 0);
        bests(x, 0, 3, 7, 0, 1, 2);
        x.guest(1, 2, 0, 9, 0);
        // 3 goes ahead of 0 and 1; where 2 stands is the same, so it stands as far ahead as helps.
        bests(x, 0, 4, 1 + 1 + 3 + 5, 2, 3, 0, 1);
    }

    private static void theLastOfAllOrders() {
        CHECK.about("of all orders, the last of 720 too");
        CureTown x = Texts.town("cure a: bath 0 6;cure b: bath 0 5;cure c: bath 0 4;cure d: bath 0 3;cure e: bath 0 2;cure f: bath 0 1;");
        x.bath(0, 0, true);
        for (int g = 0; g < 6; g++) {
            x.guest(0, g, 0, 9, 0);
        }
        bests(x, 0, 6, 1 + 3 + 6 + 10 + 15 + 21, 5, 4, 3, 2, 1, 0);
    }

    private static void rankDoesNotTell() {
        CHECK.about("BEST ORDER does not look at RANK");
        CureTown x = Texts.town("cure a: glass 0;");
        x.spring(0, 1, 0, 48, 0);
        for (int g = 0; g < 4; g++) {
            x.guest(3 - g, 0, 0, 9, 0);
        }
        bests(x, 0, 4, 10, 0, 1, 2, 3);
        CHECK.plans(x, 0, 0, 10, 3);
    }

    private static void bestOfWhichDay() {
        CHECK.about("14: a DAY (now or later)");
        CureTown x = crowded(100);
        for (int day : new int[] {-1, 100, MIN, MAX}) {
            CHECK.none("best(" + day + ", 0)", x.best(day, 0));
            CHECK.none("best(" + day + ", 10)", x.best(day, 10));
        }
        bests(x, 0, 4, 35, 1, 0);
        bests(x, 99, 4, 35, 1, 0);
        Texts.days(x, 5);
        CHECK.none("best(4, 0) on 5", x.best(4, 0));
        CHECK.due("best(5, 0) on 5", x.best(5, 0), 4);
        Texts.days(x, 94);
        CHECK.none("best(98, 0) on 99", x.best(98, 0));
        CHECK.due("best(99, 0) on 99", x.best(99, 0), 4);
    }

    private static void bestOfWhat() {
        CHECK.about("14: NONE for another what");
        CureTown x = crowded(9);
        for (int what = -3; what <= 30; what++) {
            int want = what == 0 ? 4 : what == 1 ? 35 : what == 10 ? 1 : what == 11 ? 0 : NONE;
            CHECK.due("best(0, " + what + ")", x.best(0, what), want);
        }
        CHECK.none("best(0, min)", x.best(0, MIN));
        CHECK.none("best(0, max)", x.best(0, MAX));
    }

    private static void keepWithNobody() {
        CHECK.about("15: true with nobody there");
        CureTown x = new CureTown();
        CHECK.due("keep(true)", x.keep(true), true);
        CHECK.due("keep(false)", x.keep(false), true);
        CHECK.due("keep(true)", x.keep(true), true);
        CHECK.due("next()", x.next(), 1);
    }

    private static void keepWithSixAndSeven() {
        CHECK.about("15: false, and nothing is done, if more than 6 are there");
        CureTown x = crowded(9);
        for (int g = 2; g < 6; g++) {
            x.guest(3, 2, 0, 9, 0);
        }
        CHECK.due("six, keep(false)", x.keep(false), true);
        CHECK.due("six, keep(true)", x.keep(true), true);
        x.guest(3, 2, 0, 1, 0);
        CHECK.due("seven, keep(true)", x.keep(true), false);
        CHECK.due("seven, keep(false)", x.keep(false), false);
        x.guest(3, 2, 0, 1, 0);
        CHECK.due("eight, keep(true)", x.keep(true), false);
        x.next();
        doneAre(x, 3, 0);
        CHECK.due("six again, keep(true)", x.keep(true), true);
        x.next();
        doneAre(x, 5, 2);
    }

    private static void keepBothWays() {
        CHECK.about("15: in BEST ORDER (is), or in its ORDER");
        CureTown x = crowded(9);
        x.next();
        doneAre(x, 3, 0);
        CHECK.due("keep(true)", x.keep(true), true);
        CHECK.due("keep(true) again", x.keep(true), true);
        x.next();
        doneAre(x, 5, 2);
        CHECK.due("keep(true)", x.keep(true), true);
        CHECK.due("keep(false)", x.keep(false), true);
        x.next();
        doneAre(x, 8, 2);
        CHECK.due("keep(false)", x.keep(false), true);
        CHECK.due("keep(true)", x.keep(true), true);
        x.next();
        doneAre(x, 10, 4);
    }

    private static void keepForThisDay() {
        CHECK.about("15: this DAY");
        CureTown x = crowded(9);
        x.keep(true);
        x.next();
        doneAre(x, 2, 2);
        x.next();
        doneAre(x, 5, 2);
    }

    private static void keptOrderCounts() {
        CHECK.about("LAID OUT in BEST, if that is told for it: that counts, GLASSES, ACTS and water");
        for (boolean best : new boolean[] {true, false}) {
            CureTown x = Texts.town("cure a: glass 0 glass 0 glass 0 glass 0; cure b: glass 0 rest 1; cure c: glass 0 rest 1 glass 0;");
            x.spring(0, 1, 0, 5, 0);
            x.spring(1, 1, 0, 10, 0);
            for (int g = 0; g < 3; g++) {
                x.guest(g, g, 0, 9, 0);
            }
            bests(x, 0, 7, 5 + 2 + 4, 1, 2, 0);
            x.keep(best);
            x.next();
            CHECK.bills(x, 0, 1, 0, best ? 2 : 4, best ? 2 : 4);
            CHECK.bills(x, 1, 1, 0, 1, 2);
            CHECK.bills(x, 2, 1, 0, best ? 2 : 0, best ? 3 : 0);
            CHECK.waters(x, 0, 5, 5, 0, 0);
            CHECK.waters(x, 1, 10, 0, 1, 0);
        }
    }

    private static void keepTheLastDay() {
        CHECK.about("15: on DAY 99 too, which does not end");
        CureTown x = crowded(100);
        Texts.days(x, 99);
        CHECK.due("keep(true)", x.keep(true), true);
        CHECK.none("next()", x.next());
        doneAre(x, 297, 0);
    }

    private static void moreThanSixAsItEnds() {
        CHECK.about("16: if more than 6 are there, it is LAID OUT in its ORDER");
        for (int guests = 6; guests <= 8; guests++) {
            CureTown x = crowded(9);
            CHECK.due("keep(true)", x.keep(true), true);
            for (int g = 2; g < guests; g++) {
                x.guest(3, 2, 0, 9, 0);
            }
            x.next();
            doneAre(x, guests == 6 ? 2 : 3, guests == 6 ? 2 : 0);
        }
    }

    private static void keptWhileASeventhWasThere() {
        CHECK.about("15, 16: as it ends 6 are there, and BEST is told");
        CureTown x = crowded(9);
        for (int g = 2; g < 6; g++) {
            x.guest(3, 2, 0, 9, 0);
        }
        x.next();
        doneAre(x, 3, 0);
        CHECK.due("keep(true)", x.keep(true), true);
        x.guest(3, 2, 1, 9, 0);
        CHECK.due("seven, keep(false)", x.keep(false), false);
        CHECK.due("leave(5, 1)", x.leave(5, 1), true);
        x.next();
        doneAre(x, 5, 2);
    }

    private static void bestIsOnlyAsked() {
        CHECK.about("14: best() tells, keep() keeps");
        CureTown x = crowded(9);
        bests(x, 0, 4, 35, 1, 0);
        x.next();
        doneAre(x, 3, 0);
        x.keep(true);
        bests(x, 3, 4, 35, 1, 0);
        CHECK.plans(x, 1, 1, 0, 0);
        x.next();
        doneAre(x, 5, 2);
    }
}
