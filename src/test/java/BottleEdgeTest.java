/** The boundaries of promises 18 and 19, bottles and sell, and of the days that bottles are good. */
public final class BottleEdgeTest {
    private static final Check CHECK = new Check();
    private static final int MIN = Integer.MIN_VALUE;
    private static final int MAX = Integer.MAX_VALUE;

    public static void main(String[] args) {
        goodForTwentyDays();
        soldOnTheLastDay();
        pouredOutByTheirDay();
        ofThatDay();
        bottlesOfWhat();
        theOldestFirst();
        theLesserSpringFirst();
        oneToNineHundredNinetyNine();
        nineHundredNinetyNineAtOnce();
        fewer();
        noneToSell();
        soldOrPouredOut();
        CHECK.finish();
    }

    /** A town in which spring s gave so many bottles on day 0, and none gives any later. */
    private static CureTown filled(int s, int bottles) {
        CureTown x = new CureTown();
        x.spring(s, bottles, 0, 10, 0);
        x.next();
        x.spring(s, 0, 0, 48, 0);
        return x;
    }

    private static void goodForTwentyDays() {
        CHECK.about("good for 20 DAYS (that on which they were filled counts); then poured out as a DAY begins");
        CureTown x = filled(1, 4);
        for (int day = 1; day <= 19; day++) {
            CHECK.due("bottles(1, 0) on " + day, x.bottles(1, 0), 4);
            CHECK.due("look(4) on " + day, x.look(4), 4);
            CHECK.due("look(6) on " + day, x.look(6), 0);
            CHECK.due("next()", x.next(), day + 1);
        }
        CHECK.due("bottles(1, 0) on 20", x.bottles(1, 0), 0);
        CHECK.due("look(4) on 20", x.look(4), 0);
        CHECK.due("look(5) on 20", x.look(5), 0);
        CHECK.due("look(6) on 20", x.look(6), 4);
        CHECK.due("sell(1) on 20", x.sell(1), 0);
        x.next();
        CHECK.due("look(6) on 21", x.look(6), 4);
        CHECK.waters(x, 1, 40, 0, 4, 0);
    }

    private static void soldOnTheLastDay() {
        CHECK.about("good for 20 DAYS: sold on the last of them");
        CureTown x = filled(2, 3);
        Texts.days(x, 18);
        CHECK.due("look(0)", x.look(0), 19);
        CHECK.due("sell(2)", x.sell(2), 2);
        x.next();
        CHECK.looks(x, 20, 0, 0, 0, 0, 2, 1);
        CHECK.due("sell(1)", x.sell(1), 0);
    }

    private static void pouredOutByTheirDay() {
        CHECK.about("poured out: those of one DAY, the next ones as the next DAY begins");
        CureTown x = new CureTown();
        for (int day = 0; day < 3; day++) {
            x.spring(0, day + 1, 0, 10, 0);
            x.spring(3, 1, 0, 10, 0);
            x.next();
        }
        x.spring(0, 0, 0, 10, 0);
        x.spring(3, 0, 0, 10, 0);
        Texts.days(x, 16);
        CHECK.looks(x, 19, 0, 0, 0, 9, 0, 0);
        x.next();
        CHECK.looks(x, 20, 0, 0, 0, 7, 0, 2);
        CHECK.due("bottles(0, 0)", x.bottles(0, 0), 0);
        CHECK.due("bottles(3, 0)", x.bottles(3, 0), 0);
        CHECK.due("bottles(0, 1)", x.bottles(0, 1), 2);
        x.next();
        CHECK.looks(x, 21, 0, 0, 0, 4, 0, 5);
        x.next();
        CHECK.looks(x, 22, 0, 0, 0, 0, 0, 9);
    }

    private static void ofThatDay() {
        CHECK.about("18: of a DAY; one that has not ended, or gave none, has none");
        CureTown x = new CureTown();
        x.next();
        x.spring(2, 5, 0, 10, 0);
        CHECK.due("bottles(2, 1) on 1", x.bottles(2, 1), 0);
        x.next();
        int[] want = {0, 5, 0, 0};
        for (int day = 0; day < want.length; day++) {
            CHECK.due("bottles(2, " + day + ") on 2", x.bottles(2, day), want[day]);
            CHECK.due("bottles(1, " + day + ") on 2", x.bottles(1, day), 0);
        }
        CHECK.due("bottles(2, 99) on 2", x.bottles(2, 99), 0);
    }

    private static void bottlesOfWhat() {
        CHECK.about("18: NONE if one can't be");
        CureTown x = new CureTown();
        for (int s = 0; s < 4; s++) {
            x.spring(s, s + 1, 0, 10, 0);
        }
        x.next();
        for (int s = 0; s < 4; s++) {
            CHECK.due("bottles(" + s + ", 0)", x.bottles(s, 0), s + 1);
            CHECK.due("bottles(" + s + ", 99)", x.bottles(s, 99), 0);
        }
        for (int s : new int[] {-1, 4, MIN, MAX}) {
            CHECK.none("bottles(" + s + ", 0)", x.bottles(s, 0));
        }
        for (int day : new int[] {-1, 100, MIN, MAX}) {
            CHECK.none("bottles(0, " + day + ")", x.bottles(0, day));
        }
        Texts.days(x, 98);
        CHECK.due("bottles(3, 98) on 99", x.bottles(3, 98), 4);
        CHECK.due("bottles(3, 99) on 99", x.bottles(3, 99), 0);
    }

    private static void theOldestFirst() {
        CHECK.about("sold are the oldest");
        CureTown x = filled(3, 2);
        x.spring(0, 2, 0, 10, 0);
        x.next();
        CHECK.due("sell(1)", x.sell(1), 1);
        CHECK.due("bottles(3, 0)", x.bottles(3, 0), 1);
        CHECK.due("bottles(0, 1)", x.bottles(0, 1), 2);
        CHECK.due("sell(2)", x.sell(2), 2);
        CHECK.due("bottles(3, 0)", x.bottles(3, 0), 0);
        CHECK.due("bottles(0, 1)", x.bottles(0, 1), 1);
        CHECK.due("look(5)", x.look(5), 3);
    }

    private static void theLesserSpringFirst() {
        CHECK.about("then those of the lesser SPRING first");
        CureTown x = new CureTown();
        for (int s = 0; s < 4; s++) {
            x.spring(s, 1, 0, 10, 0);
        }
        Texts.days(x, 2);
        for (int sold = 1; sold <= 8; sold++) {
            CHECK.due("sell(1)", x.sell(1), 1);
            for (int i = 0; i < 8; i++) {
                CHECK.due("bottles(" + i % 4 + ", " + i / 4 + ") with " + sold + " sold", x.bottles(i % 4, i / 4), i < sold ? 0 : 1);
            }
        }
        CHECK.due("sell(1)", x.sell(1), 0);
    }

    private static void oneToNineHundredNinetyNine() {
        CHECK.about("19: so many BOTTLES (1 .. 999); NONE for another number");
        CureTown x = filled(0, 9);
        for (int n : new int[] {0, -1, 1000, MIN, MAX}) {
            CHECK.none("sell(" + n + ")", x.sell(n));
            CHECK.due("look(4)", x.look(4), 9);
            CHECK.due("look(5)", x.look(5), 0);
            CHECK.due("bottles(0, 0)", x.bottles(0, 0), 9);
        }
        CHECK.due("sell(1)", x.sell(1), 1);
        CHECK.due("look(4)", x.look(4), 8);
        CHECK.due("sell(999)", x.sell(999), 8);
        CHECK.due("look(4)", x.look(4), 0);
        CHECK.due("look(5)", x.look(5), 9);
    }

    private static void nineHundredNinetyNineAtOnce() {
        CHECK.about("19: 999 of more than so many");
        CureTown x = new CureTown();
        for (int s = 0; s < 4; s++) {
            x.spring(s, 9, 0, 48, 0);
        }
        Texts.days(x, 6);
        CHECK.due("look(4)", x.look(4), 1032);
        CHECK.due("sell(999)", x.sell(999), 999);
        CHECK.due("look(4)", x.look(4), 33);
        CHECK.due("look(5)", x.look(5), 999);
        CHECK.due("bottles(2, 5)", x.bottles(2, 5), 0);
        CHECK.due("bottles(3, 5)", x.bottles(3, 5), 33);
        CHECK.due("sell(999)", x.sell(999), 33);
        CHECK.due("look(5)", x.look(5), 1032);
    }

    private static void fewer() {
        CHECK.about("19: fewer, if there are not so many");
        CHECK.due("sell(4) of 5", filled(1, 5).sell(4), 4);
        CHECK.due("sell(5) of 5", filled(1, 5).sell(5), 5);
        CureTown x = filled(1, 5);
        CHECK.due("sell(6) of 5", x.sell(6), 5);
        CHECK.due("look(4)", x.look(4), 0);
        CHECK.due("look(5)", x.look(5), 5);
        CHECK.due("bottles(1, 0)", x.bottles(1, 0), 0);
    }

    private static void noneToSell() {
        CHECK.about("19: none are there");
        CureTown x = new CureTown();
        CHECK.due("sell(1) on day 0", x.sell(1), 0);
        CHECK.due("sell(999) on day 0", x.sell(999), 0);
        CHECK.due("look(5)", x.look(5), 0);
        x.spring(0, 1, 0, 9, 0);
        x.next();
        CHECK.due("sell(1), nine glasses being none", x.sell(1), 0);
    }

    private static void soldOrPouredOut() {
        CHECK.about("every BOTTLE is good, sold or poured out");
        CureTown x = new CureTown();
        x.spring(0, 2, 0, 10, 0);
        x.spring(1, 3, 0, 10, 0);
        int sold = 0;
        for (int day = 1; day <= 40; day++) {
            x.next();
            sold += x.sell(day % 7 + 1);
            CHECK.due("good, sold and poured out on " + day, x.look(4) + x.look(5) + x.look(6), 5 * day);
            CHECK.due("sold on " + day, x.look(5), sold);
            CHECK.due("filled up to " + day, x.water(0, 2) + x.water(1, 2), 5 * day);
        }
    }
}
