/** The boundaries of promises 16, 17 and 20: next, water, bill. */
public final class DayEdgeTest {
    private static final Check CHECK = new Check();
    private static final int NONE = CureTown.NONE;
    private static final int MIN = Integer.MIN_VALUE;
    private static final int MAX = Integer.MAX_VALUE;

    public static void main(String[] args) {
        upToDayNinetyNine();
        nothingIsDoneOnNinetyNine();
        laidOutAsItEnds();
        allDaysThatEnded();
        tenMakeABottle();
        runOffEachDay();
        runOffBySpring();
        theMostASpringGives();
        givenAndNotTaken();
        allTaken();
        waterOfWhat();
        nightsOfDaysThere();
        aNightIsWhoIsThereAsItEnds();
        rateAsItIsAsTheDayEnds();
        theMostTax();
        billOfWhom();
        billOfWhat();
        billOfOneWhoHasGone();
        CHECK.finish();
    }

    private static void upToDayNinetyNine() {
        CHECK.about("16: the new one; NONE on DAY 99");
        CureTown x = new CureTown();
        for (int day = 1; day <= 99; day++) {
            CHECK.due("next()", x.next(), day);
            CHECK.due("look(0)", x.look(0), day);
        }
        CHECK.none("next()", x.next());
        CHECK.none("next() again", x.next());
        CHECK.due("look(0)", x.look(0), 99);
    }

    private static void nothingIsDoneOnNinetyNine() {
        CHECK.about("16: NONE, and nothing is done, on DAY 99");
        CureTown x = Texts.town("cure a: glass 0;");
        x.guest(2, 0, 0, 100, 9);
        x.rate(2, 3);
        x.spring(0, 1, 0, 21, 1);
        Texts.days(x, 99);
        for (int round = 0; round < 2; round++) {
            CHECK.looks(x, 99, 1, 1, 1, 38, 0, 160);
            CHECK.bills(x, 0, 99, 297, 99, 99);
            CHECK.waters(x, 0, 2079, 99, 198, 0);
            CHECK.due("bottles(0, 79)", x.bottles(0, 79), 0);
            CHECK.due("bottles(0, 80)", x.bottles(0, 80), 2);
            CHECK.due("bottles(0, 98)", x.bottles(0, 98), 2);
            CHECK.due("bottles(0, 99)", x.bottles(0, 99), 0);
            CHECK.plans(x, 99, 0, 0, 1, 1, 1, 0);
            CHECK.none("next()", x.next());
        }
    }

    private static void laidOutAsItEnds() {
        CHECK.about("as a DAY ends it is LAID OUT: that counts, as all is then");
        CureTown x = Texts.town("cure a: glass 0 glass 0;");
        x.guest(0, 0, 0, 9, 9);
        CHECK.plans(x, 0, 0, 0, 0, 0, 0, 1);
        x.spring(0, 1, 0, 1, 0);
        x.next();
        CHECK.bills(x, 0, 1, 0, 1, 1);
        CHECK.waters(x, 0, 1, 1, 0, 0);
        x.spring(0, 9, 0, 48, 5);
        x.next();
        CHECK.bills(x, 0, 2, 0, 2, 2);
        CHECK.waters(x, 0, 433, 2, 43, 1);
    }

    private static void allDaysThatEnded() {
        CHECK.about("17: all DAYS that ended");
        CureTown x = new CureTown();
        x.spring(1, 2, 3, 10, 0);
        CHECK.waters(x, 1, 0, 0, 0, 0);
        x.next();
        CHECK.waters(x, 1, 14, 0, 1, 4);
        x.spring(1, 9, 0, 48, 0);
        CHECK.waters(x, 1, 14, 0, 1, 4);
        x.spring(1, 0, 0, 48, 0);
        x.next();
        CHECK.waters(x, 1, 14, 0, 1, 4);
        x.spring(1, 1, 0, 1, 0);
        x.next();
        CHECK.waters(x, 1, 15, 0, 1, 5);
    }

    private static void tenMakeABottle() {
        CHECK.about("ten make a BOTTLE of that DAY (what is over is run off)");
        for (int glasses = 0; glasses <= 48; glasses++) {
            CureTown x = new CureTown();
            x.spring(3, 1, 0, glasses, 0);
            x.next();
            CHECK.waters(x, 3, glasses, 0, glasses / 10, glasses - glasses / 10 * 10);
            CHECK.due("bottles(3, 0) of " + glasses, x.bottles(3, 0), glasses / 10);
            CHECK.due("look(4) of " + glasses, x.look(4), glasses / 10);
        }
    }

    private static void runOffEachDay() {
        CHECK.about("what is over is run off: nine of each DAY make no BOTTLE");
        CureTown x = new CureTown();
        x.spring(0, 1, 0, 9, 0);
        Texts.days(x, 3);
        CHECK.waters(x, 0, 27, 0, 0, 27);
        CHECK.due("look(4)", x.look(4), 0);
        x.spring(0, 1, 0, 10, 0);
        x.next();
        CHECK.waters(x, 0, 37, 0, 1, 27);
        CHECK.due("bottles(0, 3)", x.bottles(0, 3), 1);
    }

    private static void runOffBySpring() {
        CHECK.about("by SPRING: nine of each SPRING make no BOTTLE");
        CureTown x = new CureTown();
        for (int s = 0; s < 4; s++) {
            x.spring(s, 1, s, s + 9, 0);
        }
        x.next();
        for (int s = 0; s < 4; s++) {
            CHECK.waters(x, s, 9, 0, 0, 9);
        }
        CHECK.due("look(4)", x.look(4), 0);
    }

    private static void theMostASpringGives() {
        CHECK.about("nine GLASSES at each of 48 QUARTERS");
        CureTown x = new CureTown();
        for (int s = 0; s < 4; s++) {
            x.spring(s, 9, 0, 48, 9);
        }
        Texts.days(x, 99);
        for (int s = 0; s < 4; s++) {
            CHECK.waters(x, s, 42768, 0, 4257, 198);
        }
        CHECK.looks(x, 99, 0, 0, 0, 4 * 43 * 19, 0, 4 * 43 * 80);
    }

    private static void givenAndNotTaken() {
        CHECK.about("GLASSES that were given and not taken");
        CureTown x = Texts.town("cure a: glass 0;cure b: glass 0 glass 0;");
        x.spring(0, 1, 0, 11, 0);
        x.guest(0, 0, 0, 2, 0);
        x.guest(0, 0, 1, 2, 0);
        x.next();
        CHECK.waters(x, 0, 11, 1, 1, 0);
        x.next();
        CHECK.waters(x, 0, 22, 3, 1, 9);
        CHECK.due("bottles(0, 0)", x.bottles(0, 0), 1);
        CHECK.due("bottles(0, 1)", x.bottles(0, 1), 0);
        // A glass above the bound stays in the spring.
        x.guest(0, 1, 2, 3, 5);
        x.spring(0, 1, 0, 11, 5);
        x.next();
        CHECK.waters(x, 0, 33, 4, 2, 9);
    }

    private static void allTaken() {
        CHECK.about("GLASSES: all of them taken, at the first and the last QUARTER too");
        CureTown x = Texts.town("cure a:" + Texts.times("glass 1 ", 24) + ";cure b: until 24 " + Texts.times("glass 1 ", 24) + ";");
        x.spring(1, 1, 0, 48, 0);
        x.guest(0, 0, 0, 1, 0);
        x.guest(0, 1, 0, 1, 0);
        x.next();
        CHECK.waters(x, 1, 48, 48, 0, 0);
        CHECK.bills(x, 0, 1, 0, 24, 24);
        CHECK.bills(x, 1, 1, 0, 24, 24);
    }

    private static void waterOfWhat() {
        CHECK.about("17: NONE if one can't be");
        CureTown x = new CureTown();
        x.spring(0, 1, 0, 48, 0);
        x.spring(3, 1, 0, 48, 0);
        x.next();
        CHECK.waters(x, 0, 48, 0, 4, 8, NONE);
        CHECK.waters(x, 3, 48, 0, 4, 8, NONE);
        for (int wrong : new int[] {-1, 4, MIN, MAX}) {
            CHECK.none("water(" + wrong + ", 0)", x.water(wrong, 0));
            CHECK.none("water(0, " + wrong + ")", x.water(0, wrong));
        }
    }

    private static void nightsOfDaysThere() {
        CHECK.about("TAX: for each night (a DAY there)");
        CureTown x = Texts.town("cure a:;");
        x.rate(1, 10);
        x.guest(1, 0, 2, 4, 0);
        int[] nights = {0, 0, 1, 2, 2, 2};
        for (int day = 0; day < nights.length; day++) {
            x.next();
            CHECK.bills(x, 0, nights[day], 10 * nights[day], 0, 0);
        }
    }

    private static void aNightIsWhoIsThereAsItEnds() {
        CHECK.about("a DAY there: not the DAY of going");
        CureTown x = Texts.town("cure a: rest 1;");
        x.rate(0, 10);
        x.guest(0, 0, 0, 9, 0);
        x.guest(0, 0, 0, 9, 0);
        x.next();
        x.leave(0, 1);
        x.leave(1, 2);
        x.next();
        CHECK.bills(x, 0, 1, 10, 0, 1);
        CHECK.bills(x, 1, 2, 20, 0, 2);
        x.next();
        CHECK.bills(x, 1, 2, 20, 0, 2);
    }

    private static void rateAsItIsAsTheDayEnds() {
        CHECK.about("TAX: a RATE of the RANK as it is as that DAY ends");
        CureTown x = Texts.town("cure a:;");
        x.guest(0, 0, 0, 9, 0);
        x.guest(3, 0, 0, 9, 0);
        x.rate(0, 999);
        x.rate(0, 5);
        x.next();
        x.rate(0, 7);
        CHECK.bills(x, 0, 1, 5, 0, 0);
        CHECK.bills(x, 1, 1, 0, 0, 0);
        x.next();
        CHECK.bills(x, 0, 2, 12, 0, 0);
        x.rate(0, 0);
        x.rate(3, 1);
        x.next();
        CHECK.bills(x, 0, 3, 12, 0, 0);
        CHECK.bills(x, 1, 3, 1, 0, 0);
    }

    private static void theMostTax() {
        CHECK.about("TAX: 999 for each of 99 nights");
        CureTown x = Texts.town("cure a:" + Texts.times("glass 0 ", 30) + ";");
        x.spring(0, 1, 0, 48, 0);
        x.rate(3, 999);
        x.guest(3, 0, 0, 100, 0);
        Texts.days(x, 99);
        CHECK.bills(x, 0, 99, 98901, 2970, 2970);
    }

    private static void billOfWhom() {
        CHECK.about("20: NONE if there is none such");
        CureTown x = Texts.town("cure a:;");
        CHECK.none("bill(0, 0) of none", x.bill(0, 0));
        x.guest(0, 0, 0, 9, 0);
        x.guest(0, 0, 5, 9, 0);
        x.next();
        CHECK.bills(x, 0, 1, 0, 0, 0);
        CHECK.bills(x, 1, 0, 0, 0, 0);
        for (int g : new int[] {-1, 2, 7, 8, MIN, MAX}) {
            CHECK.bills(x, g, NONE, NONE, NONE, NONE);
        }
        for (int g = 2; g < 8; g++) {
            x.guest(0, 0, 1, 9, 0);
        }
        CHECK.bills(x, 7, 0, 0, 0, 0);
        CHECK.bills(x, 8, NONE, NONE, NONE, NONE);
    }

    private static void billOfWhat() {
        CHECK.about("20: NONE for another what");
        CureTown x = Texts.town("cure a: glass 0 rest 1;");
        x.spring(0, 1, 0, 48, 0);
        x.rate(0, 9);
        x.guest(0, 0, 0, 9, 0);
        x.next();
        CHECK.bills(x, 0, 1, 9, 1, 2, NONE);
        for (int what : new int[] {-1, 4, 10, MIN, MAX}) {
            CHECK.none("bill(0, " + what + ")", x.bill(0, what));
        }
    }

    private static void billOfOneWhoHasGone() {
        CHECK.about("20: all DAYS that ended, of one who has gone too");
        CureTown x = Texts.town("cure a: glass 0 rest 1 bath 0 1 until 20 bath 1 1;");
        x.spring(0, 1, 0, 48, 0);
        x.bath(0, 0, true);
        x.rate(2, 9);
        x.guest(2, 0, 0, 1, 0);
        CHECK.bills(x, 0, 0, 0, 0, 0);
        x.next();
        CHECK.bills(x, 0, 1, 9, 1, 3);
        Texts.days(x, 5);
        CHECK.bills(x, 0, 1, 9, 1, 3);
    }
}
