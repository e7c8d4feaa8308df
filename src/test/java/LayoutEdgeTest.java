/** The boundaries of promises 12 and 13, plan and taken, and of a day's laying out. */
public final class LayoutEdgeTest {
    private static final Check CHECK = new Check();
    private static final int NONE = CureTown.NONE;
    private static final int MIN = Integer.MIN_VALUE;
    private static final int MAX = Integer.MAX_VALUE;

    public static void main(String[] args) {
        fromQuarterZeroOn();
        firstQuarterThatGives();
        oneThatIsNotTaken();
        aboveBound();
        boundOfNinetyNine();
        noTimeGoes();
        aboveBoundIsNotLost();
        boundOfEachDay();
        bathFreeTogether();
        leastBath();
        bathsThatAreNotOpen();
        untilTheseAreOver();
        restUpToTheEnd();
        bathUpToTheEnd();
        glassUpToTheEnd();
        nowIsQAtLeast();
        untilAtTheEnd();
        multipleOfK();
        bracketsInBrackets();
        allBehindIsLost();
        lostTakesNothing();
        doneTakesTime();
        endOfTheLastOne();
        orderByRankThenNumber();
        planOfWhichDay();
        planOfWhom();
        planOfWhat();
        planOfThirty();
        bathOfThatOne();
        takenOfWhat();
        takenInItsOrder();
        asAllIsNow();
        CHECK.finish();
    }

    private static CureTown alone(String acts, int bound) {
        CureTown x = Texts.town("cure a: " + acts + ";");
        x.guest(0, 0, 0, 100, bound);
        return x;
    }

    private static void fromQuarterZeroOn() {
        CHECK.about("from QUARTER 0 on");
        CureTown x = Texts.town("cure a: rest 1 glass 0; cure b: bath 0 1; cure c: glass 0;");
        x.spring(0, 1, 0, 48, 0);
        x.bath(0, 0, true);
        for (int g = 0; g < 3; g++) {
            x.guest(0, g, 0, 9, 0);
            CHECK.plans(x, 0, g, 10, 0);
        }
    }

    private static void firstQuarterThatGives() {
        CHECK.about("glass: the first QUARTER from now on at which that SPRING gives one");
        CureTown x = alone("rest 6 glass 1 glass 1 glass 1", 0);
        x.spring(0, 9, 0, 48, 0);
        x.spring(1, 1, 8, 10, 0);
        CHECK.plans(x, 0, 0, 10, 0, 8, 9, NONE);
        CHECK.plans(x, 0, 0, 0, 3, 10, 2, 1);
        x.spring(1, 1, 6, 9, 0);
        CHECK.plans(x, 0, 0, 10, 0, 6, 7, 8);
        x.spring(1, 1, 0, 7, 0);
        CHECK.plans(x, 0, 0, 10, 0, 6, NONE);
        x.spring(1, 1, 0, 6, 0);
        CHECK.plans(x, 0, 0, 0, 1, 6, 0, 1);
    }

    private static void oneThatIsNotTaken() {
        CHECK.about("glass: one that is not taken");
        CureTown x = Texts.town("cure a: glass 3;");
        for (int g = 0; g < 8; g++) {
            x.guest(0, 0, 0, 9, 0);
        }
        x.spring(3, 9, 2, 3, 0);
        CHECK.plans(x, 0, 7, 10, 2);
        x.spring(3, 8, 2, 3, 0);
        CHECK.plans(x, 0, 7, 10, 2);
        x.spring(3, 7, 2, 3, 0);
        CHECK.plans(x, 0, 6, 10, 2);
        CHECK.plans(x, 0, 7, 0, 0, 0, 0, 1);
        x.spring(3, 7, 2, 4, 0);
        CHECK.plans(x, 0, 7, 0, 1, 4, 1, 0);
        x.spring(3, 1, 40, 48, 0);
        CHECK.plans(x, 0, 7, 10, 47);
    }

    private static void aboveBound() {
        CHECK.about("glass: none if the STRENGTHS of that day's GLASSES with it would be above BOUND");
        for (int bound = 0; bound <= 12; bound++) {
            CureTown x = alone("glass 0 glass 1 glass 0", bound);
            x.spring(0, 1, 0, 48, 3);
            x.spring(1, 1, 0, 48, 5);
            // Of 3, 5, 3 each that stays within the bound with those ahead of it is drunk.
            int drunk = bound >= 11 ? 3 : bound >= 6 ? 2 : bound >= 3 ? 1 : 0;
            CHECK.due("glasses within " + bound, x.plan(0, 0, 2), drunk);
            CHECK.due("done within " + bound, x.plan(0, 0, 0), drunk);
            CHECK.due("lost within " + bound, x.plan(0, 0, 3), 0);
        }
    }

    private static void boundOfNinetyNine() {
        CHECK.about("a BOUND of 99, of 0");
        CureTown x = alone(Texts.times("glass 0 ", 12) + "glass 1", 99);
        x.spring(0, 9, 0, 48, 9);
        CHECK.plans(x, 0, 0, 0, 11, 11, 11, 1);
        x.spring(1, 1, 0, 48, 0);
        CHECK.plans(x, 0, 0, 0, 12, 12, 12, 0);
        x.spring(1, 1, 0, 48, 1);
        CHECK.plans(x, 0, 0, 0, 11, 11, 11, 0);
        x = alone("glass 0 glass 1 glass 0", 0);
        x.spring(0, 9, 0, 48, 0);
        x.spring(1, 9, 0, 48, 1);
        CHECK.plans(x, 0, 0, 0, 2, 2, 2, 0);
    }

    private static void noTimeGoes() {
        CHECK.about("glass: none (and no time goes)");
        CureTown x = alone("rest 2 glass 0 rest 3 glass 0 glass 1 rest 1", 4);
        x.spring(0, 1, 30, 48, 5);
        x.spring(1, 1, 0, 48, 4);
        CHECK.plans(x, 0, 0, 10, 0, 2, 5, 6, NONE);
        CHECK.plans(x, 0, 0, 90, 2, 2, 0, 2, NONE);
        CHECK.due("not taken", x.taken(0, 0, 30), 0);
        CHECK.due("taken", x.taken(0, 1, 5), 1);
    }

    private static void aboveBoundIsNotLost() {
        CHECK.about("glass: but none if above BOUND, whether or not the SPRING gives one");
        CureTown x = alone("glass 0 rest 16 rest 16 rest 16 glass 0", 4);
        x.spring(0, 0, 0, 48, 5);
        CHECK.plans(x, 0, 0, 0, 3, 48, 0, 0);
        x.spring(0, 9, 0, 48, 5);
        CHECK.plans(x, 0, 0, 0, 3, 48, 0, 0);
        x.spring(0, 0, 0, 48, 4);
        CHECK.plans(x, 0, 0, 0, 0, 0, 0, 1);
    }

    private static void boundOfEachDay() {
        CHECK.about("that day's GLASSES: each DAY begins with none");
        CureTown x = alone("glass 0 glass 0", 9);
        x.spring(0, 1, 0, 48, 9);
        CHECK.plans(x, 0, 0, 0, 1, 1, 1, 0);
        CHECK.plans(x, 1, 0, 0, 1, 1, 1, 0);
        Texts.days(x, 3);
        CHECK.bills(x, 0, 3, 0, 3, 3);
        CHECK.plans(x, 3, 0, 0, 1, 1, 1, 0);
        // One guest's glasses are not another's.
        x.guest(0, 0, 3, 9, 9);
        CHECK.plans(x, 3, 1, 0, 1, 2, 1, 0);
    }

    private static void bathFreeTogether() {
        CHECK.about("bath: free for n QUARTERS together");
        CureTown x = Texts.town("cure a: rest 3 bath 0 2 rest 4 bath 0 1; cure b: bath 0 3; cure c: bath 0 4; cure d: bath 0 5;");
        x.bath(0, 0, true);
        x.guest(0, 0, 0, 9, 0);
        x.guest(1, 1, 0, 1, 0);
        x.guest(1, 2, 1, 2, 0);
        x.guest(1, 3, 2, 3, 0);
        // The bath is free at 0 .. 2, 5 .. 8 and from 10 on.
        CHECK.plans(x, 0, 0, 10, 0, 3, 5, 9);
        CHECK.plans(x, 0, 1, 10, 0);
        CHECK.plans(x, 1, 2, 10, 5);
        CHECK.plans(x, 2, 3, 10, 10);
        CHECK.plans(x, 0, 1, 1, 3);
        CHECK.plans(x, 1, 2, 1, 9);
        CHECK.plans(x, 2, 3, 1, 15);
    }

    private static void leastBath() {
        CHECK.about("bath: the least such BATH");
        CureTown x = Texts.town("cure a: bath 1 2; cure b: rest 1 bath 1 2; cure c: rest 2 bath 1 2;");
        x.bath(5, 1, true);
        x.bath(2, 1, true);
        x.bath(0, 0, true);
        x.guest(0, 0, 0, 1, 0);
        x.guest(1, 1, 0, 1, 0);
        x.guest(2, 2, 0, 1, 0);
        x.guest(3, 0, 0, 1, 0);
        CHECK.plans(x, 0, 0, 50, 2);
        CHECK.plans(x, 0, 1, 50, NONE, 5);
        CHECK.plans(x, 0, 2, 50, NONE, 2);
        // At 0 the greater one is taken from 1 on, so 3 is the first quarter.
        CHECK.plans(x, 0, 3, 10, 3);
        CHECK.plans(x, 0, 3, 50, 5);
        sooner();
    }

    private static void sooner() {
        CHECK.about("bath: the first QUARTER goes ahead of the least BATH");
        CureTown x = Texts.town("cure a: bath 0 3; cure b: bath 0 1;");
        x.bath(0, 0, true);
        x.bath(1, 0, true);
        x.guest(0, 0, 0, 1, 0);
        x.guest(1, 1, 0, 1, 0);
        x.guest(2, 1, 0, 1, 0);
        CHECK.plans(x, 0, 1, 50, 1);
        CHECK.plans(x, 0, 1, 10, 0);
        CHECK.plans(x, 0, 2, 50, 1);
        CHECK.plans(x, 0, 2, 10, 1);
    }

    private static void bathsThatAreNotOpen() {
        CHECK.about("bath: some open BATH of KIND K");
        CureTown x = alone("bath 1 1", 0);
        x.bath(0, 1, false);
        x.bath(1, 0, true);
        x.bath(2, 2, true);
        CHECK.plans(x, 0, 0, 0, 0, 0, 0, 1);
        x.bath(3, 1, true);
        CHECK.plans(x, 0, 0, 50, 3);
        x.bath(2, 1, true);
        CHECK.plans(x, 0, 0, 50, 2);
        x.bath(0, 1, true);
        CHECK.plans(x, 0, 0, 50, 0);
        x.bath(0, 1, false);
        CHECK.plans(x, 0, 0, 50, 2);
    }

    private static void untilTheseAreOver() {
        CHECK.about("bath: until these are over; glass: one QUARTER; rest n: n QUARTERS");
        CureTown x = alone("bath 0 1 bath 0 16 glass 0 rest 1 rest 16 glass 0", 0);
        x.bath(0, 0, true);
        x.spring(0, 1, 0, 48, 0);
        CHECK.plans(x, 0, 0, 10, 0, 1, 17, 18, 19, 35, NONE);
        CHECK.plans(x, 0, 0, 0, 6, 36, 2, 0);
    }

    private static void restUpToTheEnd() {
        CHECK.about("rest: up to the end of QUARTER 47");
        CHECK.plans(alone("until 32 rest 16", 0), 0, 0, 0, 1, 48, 0, 0);
        CHECK.plans(alone("until 33 rest 16", 0), 0, 0, 0, 0, 0, 0, 1);
        CHECK.plans(alone("until 47 rest 1", 0), 0, 0, 0, 1, 48, 0, 0);
        CHECK.plans(alone("until 47 rest 2", 0), 0, 0, 0, 0, 0, 0, 1);
        CHECK.plans(alone("until 47 rest 1 rest 1", 0), 0, 0, 0, 1, 48, 0, 1);
        CHECK.plans(alone("rest 16 rest 16 rest 16", 0), 0, 0, 0, 3, 48, 0, 0);
    }

    private static CureTown withBath(String acts) {
        CureTown x = alone(acts, 0);
        x.bath(0, 0, true);
        return x;
    }

    private static void bathUpToTheEnd() {
        CHECK.about("bath: up to the end of QUARTER 47");
        CHECK.plans(withBath("until 32 bath 0 16"), 0, 0, 0, 1, 48, 0, 0);
        CHECK.plans(withBath("until 33 bath 0 16"), 0, 0, 0, 0, 0, 0, 1);
        CHECK.plans(withBath("until 47 bath 0 1"), 0, 0, 0, 1, 48, 0, 0);
        CHECK.plans(withBath("until 47 bath 0 2"), 0, 0, 0, 0, 0, 0, 1);
        CHECK.plans(withBath("until 47 bath 0 1 bath 0 1"), 0, 0, 0, 1, 48, 0, 1);
        CureTown x = Texts.town("cure a: until 30 bath 0 16; cure b: until 29 bath 0 2; cure c: until 29 bath 0 3;");
        x.bath(0, 0, true);
        x.guest(0, 0, 0, 2, 0);
        x.guest(1, 1, 0, 1, 0);
        x.guest(1, 2, 1, 2, 0);
        CHECK.plans(x, 0, 1, 0, 1, 48, 0, 0);
        CHECK.plans(x, 1, 2, 0, 0, 0, 0, 1);
    }

    private static void glassUpToTheEnd() {
        CHECK.about("glass: up to the end of QUARTER 47");
        CureTown x = alone("until 46 glass 0 glass 0", 0);
        x.spring(0, 1, 0, 48, 0);
        CHECK.plans(x, 0, 0, 0, 2, 48, 2, 0);
        x = alone("until 47 glass 0 glass 0", 0);
        x.spring(0, 1, 0, 48, 0);
        CHECK.plans(x, 0, 0, 0, 1, 48, 1, 1);
        x.spring(0, 1, 0, 47, 0);
        CHECK.plans(x, 0, 0, 0, 0, 0, 0, 1);
    }

    private static void nowIsQAtLeast() {
        CHECK.about("until q: now is q at least");
        CHECK.plans(alone("rest 4 until 3 rest 1", 0), 0, 0, 10, 0, 4);
        CHECK.plans(alone("rest 4 until 4 rest 1", 0), 0, 0, 10, 0, 4);
        CHECK.plans(alone("rest 4 until 5 rest 1", 0), 0, 0, 10, 0, 5);
        CHECK.plans(alone("until 0 rest 1", 0), 0, 0, 10, 0);
        CHECK.plans(alone("until 9 until 2 rest 1", 0), 0, 0, 10, 9);
    }

    private static void untilAtTheEnd() {
        CHECK.about("until takes no time: it is neither DONE nor LOST");
        CHECK.plans(alone("until 47", 0), 0, 0, 0, 0, 0, 0, 0);
        CHECK.plans(alone("rest 16 rest 16 rest 16 until 47 until 0", 0), 0, 0, 0, 3, 48, 0, 0);
        CHECK.plans(alone("rest 2 until 47", 0), 0, 0, 0, 1, 2, 0, 0);
    }

    private static void multipleOfK() {
        CHECK.about("each k: if the DAY is a multiple of k");
        for (int k = 1; k <= 9; k++) {
            CureTown x = alone("each " + k + " (rest 1) rest 2", 0);
            for (int day : new int[] {0, 1, 2, 3, 4, 5, 6, 7, 8, 9, 10, 18, 63, 72, 96, 98, 99}) {
                boolean is = day == 0 || day / k * k == day;
                CHECK.due("each " + k + " on " + day, x.plan(day, 0, 1), is ? 3 : 2);
            }
        }
    }

    private static void bracketsInBrackets() {
        CHECK.about("each k: what is in the brackets, brackets in brackets too");
        CureTown x = alone("each 2 (each 3 (each 5 (each 7 (each 1 (rest 16)) rest 8) rest 4) rest 2) rest 1", 0);
        CHECK.plans(x, 0, 0, 0, 5, 31);
        CHECK.plans(x, 1, 0, 0, 1, 1);
        CHECK.plans(x, 2, 0, 0, 2, 3);
        CHECK.plans(x, 3, 0, 0, 1, 1);
        CHECK.plans(x, 6, 0, 0, 3, 7);
        CHECK.plans(x, 30, 0, 0, 4, 15);
        CHECK.plans(x, 35, 0, 0, 1, 1);
        CHECK.plans(x, 70, 0, 0, 2, 3);
        CHECK.plans(x, 99, 0, 0, 1, 1);
    }

    private static void allBehindIsLost() {
        CHECK.about("it and all behind it are LOST");
        CHECK.plans(alone("rest 1 bath 0 1 rest 1", 0), 0, 0, 0, 1, 1, 0, 1);
        CHECK.plans(alone("bath 0 1 rest 1", 0), 0, 0, 0, 0, 0, 0, 1);
        CureTown x = alone("rest 2 each 2 (rest 1 bath 0 1 rest 1) rest 3", 0);
        CHECK.plans(x, 0, 0, 0, 2, 3, 0, 1);
        CHECK.plans(x, 1, 0, 0, 2, 5, 0, 0);
        x = alone("rest 1 glass 0 rest 1", 0);
        CHECK.plans(x, 0, 0, 0, 1, 1, 0, 1);
        // A shorter one behind it would find room, but it is behind.
        CHECK.plans(alone("until 40 rest 9 rest 1", 0), 0, 0, 0, 0, 0, 0, 1);
        CHECK.plans(alone("rest 1 rest 1", 0), 0, 0, 0, 2, 2, 0, 0);
    }

    private static void lostTakesNothing() {
        CHECK.about("what is LOST is not taken");
        CureTown x = Texts.town("cure a: until 40 bath 0 9 glass 0; cure b: until 40 bath 0 8 glass 0; cure c: bath 1 1 glass 0;");
        x.bath(0, 0, true);
        x.spring(0, 1, 0, 48, 0);
        x.guest(0, 0, 0, 9, 0);
        x.guest(1, 1, 0, 9, 0);
        x.guest(2, 2, 0, 9, 0);
        CHECK.plans(x, 0, 0, 0, 0, 0, 0, 1);
        CHECK.plans(x, 0, 1, 0, 1, 48, 0, 1);
        CHECK.plans(x, 0, 2, 0, 0, 0, 0, 1);
        for (int q = 0; q < 48; q++) {
            CHECK.due("taken(0, 0, " + q + ")", x.taken(0, 0, q), 0);
        }
    }

    private static void doneTakesTime() {
        CHECK.about("DONE: glass, bath, rest; those that took no time not");
        CureTown x = alone("until 1 each 1 (glass 0 glass 1 bath 0 1 until 3 rest 1) each 1 ()", 4);
        x.bath(0, 0, true);
        x.spring(0, 1, 0, 48, 4);
        x.spring(1, 1, 0, 48, 1);
        CHECK.plans(x, 0, 0, 0, 3, 4, 1, 0);
        CHECK.plans(x, 0, 0, 90, 0, 1, 2, NONE);
        CHECK.plans(x, 0, 0, 10, 1, 2, 3, NONE);
    }

    private static void endOfTheLastOne() {
        CHECK.about("END: the QUARTER at which the last one was over (0)");
        CHECK.plans(alone("", 0), 0, 0, 0, 0, 0, 0, 0);
        CHECK.plans(alone("until 30", 0), 0, 0, 1, 0);
        CHECK.plans(alone("rest 5 until 30", 0), 0, 0, 1, 5);
        CHECK.plans(alone("rest 5 until 30 rest 1", 0), 0, 0, 1, 31);
        CHECK.plans(alone("rest 5 until 30 bath 0 1", 0), 0, 0, 1, 5);
        CHECK.plans(alone("until 47 rest 1", 0), 0, 0, 1, 48);
    }

    private static void orderByRankThenNumber() {
        CHECK.about("The ORDER of a DAY: by RANK (the lesser ahead), then by number");
        CureTown x = Texts.town("cure a: glass 0;");
        x.spring(0, 1, 0, 48, 0);
        int[] ranks = {3, 2, 3, 0, 1, 0, 2, 1};
        int[] places = {6, 4, 7, 0, 2, 1, 5, 3};
        for (int rank : ranks) {
            x.guest(rank, 0, 0, 9, 0);
        }
        for (int g = 0; g < 8; g++) {
            CHECK.plans(x, 0, g, 10, places[g]);
        }
        CHECK.about("The ORDER of a DAY: GUESTS who are there");
        x.leave(3, 5);
        x.leave(4, 5);
        int[] later = {4, 2, 5, NONE, NONE, 0, 3, 1};
        for (int g = 0; g < 8; g++) {
            CHECK.plans(x, 5, g, 10, later[g]);
        }
    }

    private static void planOfWhichDay() {
        CHECK.about("12: a DAY (now or later, up to 99)");
        CureTown x = alone("rest 1", 0);
        CHECK.plans(x, -1, 0, 0, NONE);
        CHECK.plans(x, MIN, 0, 0, NONE);
        CHECK.plans(x, 0, 0, 0, 1);
        CHECK.plans(x, 99, 0, 0, 1);
        CHECK.plans(x, 100, 0, 0, NONE);
        CHECK.plans(x, MAX, 0, 0, NONE);
        Texts.days(x, 7);
        CHECK.plans(x, 6, 0, 0, NONE);
        CHECK.plans(x, 7, 0, 0, 1);
        CHECK.plans(x, 8, 0, 0, 1);
        Texts.days(x, 92);
        CHECK.plans(x, 98, 0, 0, NONE);
        CHECK.plans(x, 99, 0, 0, 1);
    }

    private static void planOfWhom() {
        CHECK.about("12: NONE if g is not there then, or can't be");
        CureTown x = Texts.town("cure a: rest 1;");
        CHECK.plans(x, 0, 0, 0, NONE);
        x.guest(0, 0, 2, 4, 0);
        for (int what : new int[] {0, 1, 2, 3, 10, 50, 90}) {
            CHECK.plans(x, 1, 0, what, NONE);
            CHECK.plans(x, 4, 0, what, NONE);
        }
        CHECK.plans(x, 2, 0, 0, 1);
        CHECK.plans(x, 3, 0, 0, 1);
        for (int g : new int[] {-1, 1, 7, 8, MIN, MAX}) {
            CHECK.plans(x, 2, g, 0, NONE);
        }
    }

    private static void planOfWhat() {
        CHECK.about("12: NONE for another what");
        CureTown x = alone("rest 1 rest 2", 0);
        for (int what = -3; what <= 140; what++) {
            int want = NONE;
            switch (what) {
                case 0, 90, 91 -> want = 2;
                case 1 -> want = 3;
                case 2, 3, 10 -> want = 0;
                case 11 -> want = 1;
                default -> want = NONE;
            }
            CHECK.plans(x, 0, 0, what, want);
        }
        CHECK.plans(x, 0, 0, MIN, NONE);
        CHECK.plans(x, 0, 0, MAX, NONE);
    }

    private static void planOfThirty() {
        CHECK.about("12: 10 + i, 50 + i, 90 + i, of the last of 30");
        CureTown x = alone(Texts.times("bath 0 1 ", 30), 0);
        x.bath(4, 0, true);
        CHECK.plans(x, 0, 0, 0, 30, 30, 0, 0);
        CHECK.plans(x, 0, 0, 38, 28, 29, NONE);
        CHECK.plans(x, 0, 0, 78, 4, 4, NONE);
        CHECK.plans(x, 0, 0, 118, 1, 1, NONE);
        CHECK.plans(x, 0, 0, 9, NONE, 0);
        CHECK.plans(x, 0, 0, 49, NONE, 4);
        CHECK.plans(x, 0, 0, 89, NONE, 1);
    }

    private static void bathOfThatOne() {
        CHECK.about("12: 50 + i the BATH of that one (NONE), 90 + i what it is");
        CureTown x = alone("glass 3 bath 0 1 rest 1 bath 2 1", 0);
        x.spring(3, 1, 0, 48, 0);
        x.bath(0, 0, true);
        x.bath(5, 2, true);
        CHECK.plans(x, 0, 0, 50, NONE, 0, NONE, 5, NONE);
        CHECK.plans(x, 0, 0, 90, 0, 1, 2, 1, NONE);
    }

    private static void takenOfWhat() {
        CHECK.about("13: NONE if one can't be");
        CureTown x = alone("glass 0 until 47 glass 3", 0);
        x.spring(0, 1, 0, 48, 0);
        x.spring(3, 1, 0, 48, 0);
        Texts.days(x, 5);
        CHECK.due("taken(5, 0, 0)", x.taken(5, 0, 0), 1);
        CHECK.due("taken(5, 3, 47)", x.taken(5, 3, 47), 1);
        CHECK.due("taken(99, 0, 0)", x.taken(99, 0, 0), 1);
        CHECK.due("taken(5, 3, 46)", x.taken(5, 3, 46), 0);
        CHECK.due("taken(5, 1, 0)", x.taken(5, 1, 0), 0);
        for (int day : new int[] {4, 0, -1, 100, MIN, MAX}) {
            CHECK.none("taken(" + day + ", 0, 0)", x.taken(day, 0, 0));
        }
        for (int s : new int[] {-1, 4, MIN, MAX}) {
            CHECK.none("taken(5, " + s + ", 0)", x.taken(5, s, 0));
        }
        for (int quarter : new int[] {-1, 48, MIN, MAX}) {
            CHECK.none("taken(5, 0, " + quarter + ")", x.taken(5, 0, quarter));
        }
    }

    private static void takenInItsOrder() {
        CHECK.about("13: there GLASSES of SPRING s that are taken at a QUARTER");
        CureTown x = Texts.town("cure a: glass 2 glass 2;");
        x.spring(2, 7, 0, 48, 0);
        for (int g = 0; g < 8; g++) {
            x.guest(0, 0, 3, 5, 0);
        }
        // The eighth finds none left at 0 and 1.
        int[] want = {7, 7, 1, 1, 0};
        for (int q = 0; q < want.length; q++) {
            CHECK.due("taken(4, 2, " + q + ")", x.taken(4, 2, q), want[q]);
            CHECK.due("taken(2, 2, " + q + ")", x.taken(2, 2, q), 0);
            CHECK.due("taken(5, 2, " + q + ")", x.taken(5, 2, q), 0);
        }
        x.spring(2, 9, 0, 48, 0);
        CHECK.due("taken(4, 2, 0)", x.taken(4, 2, 0), 8);
        CHECK.due("taken(4, 2, 1)", x.taken(4, 2, 1), 8);
        CHECK.due("taken(4, 2, 2)", x.taken(4, 2, 2), 0);
    }

    private static void asAllIsNow() {
        CHECK.about("12: LAID OUT in its ORDER as all is now");
        CureTown x = Texts.town("cure a: bath 0 16 bath 0 16 bath 0 16; cure b: bath 0 1 rest 1;");
        x.bath(0, 0, true);
        x.guest(0, 0, 0, 9, 0);
        x.guest(1, 1, 0, 9, 0);
        CHECK.plans(x, 0, 1, 0, 0, 0, 0, 1);
        x.keep(true);
        CHECK.plans(x, 0, 1, 0, 0, 0, 0, 1);
        CHECK.due("best(0, 10)", x.best(0, 10), 1);
        CHECK.plans(x, 0, 0, 0, 3, 48, 0, 0);
        x.bath(5, 0, true);
        CHECK.plans(x, 0, 1, 0, 2, 2, 0, 0);
        x.bath(5, 0, false);
        x.leave(0, 4);
        CHECK.plans(x, 4, 1, 0, 2, 2, 0, 0);
        CHECK.plans(x, 3, 1, 0, 0, 0, 0, 1);
    }
}
