/** The boundaries of promises 1 to 4: a new object, spring, bath, rate. */
public final class SetupEdgeTest {
    private static final Check CHECK = new Check();
    private static final int MIN = Integer.MIN_VALUE;
    private static final int MAX = Integer.MAX_VALUE;

    public static void main(String[] args) {
        aNewObject();
        fiveHundredAndTwelveCalls();
        springsAtFirst();
        whichSpring();
        glassesAQuarter();
        fromOn();
        untilAhead();
        fromAboveUntil();
        untilFortyEight();
        strength();
        bathsAtFirst();
        whichBath();
        whichKind();
        ratesAtFirst();
        whichRank();
        whichRate();
        CHECK.finish();
    }

    private static void aNewObject() {
        CHECK.about("1: DAY 0");
        CureTown x = new CureTown();
        CHECK.looks(x, 0, 0, 0, 0, 0, 0, 0);
        CHECK.due("fault(0)", x.fault(0), 0);
        CHECK.none("fault(1)", x.fault(1));
        for (int s = 0; s < 4; s++) {
            CHECK.waters(x, s, 0, 0, 0, 0);
            CHECK.due("bottles(" + s + ", 0)", x.bottles(s, 0), 0);
            CHECK.due("taken(0, " + s + ", 0)", x.taken(0, s, 0), 0);
        }
        CHECK.none("bill(0, 0)", x.bill(0, 0));
        CHECK.none("plan(0, 0, 0)", x.plan(0, 0, 0));
        CHECK.due("sell(1)", x.sell(1), 0);
        CHECK.due("end(1)", x.end(1), false);
        CHECK.none("guest", x.guest(0, 0, 0, 1, 0));
        CHECK.due("leave(0, 1)", x.leave(0, 1), false);
        CHECK.due("load()", x.load(), 0);
        CHECK.due("keep(true)", x.keep(true), true);
        CHECK.due("next()", x.next(), 1);
        CHECK.due("a second object's look(0)", new CureTown().look(0), 0);
    }

    private static void fiveHundredAndTwelveCalls() {
        CHECK.about("at most 512 calls after it has been made");
        CureTown x = Texts.town("cure a: glass 0;");
        x.spring(0, 1, 0, 48, 1);
        x.guest(0, 0, 0, 100, 9);
        // Three calls told the text, two came behind it.
        for (int call = 6; call <= 511; call++) {
            x.look(0);
        }
        CHECK.due("call 512, next()", x.next(), 1);
    }

    private static void springsAtFirst() {
        CHECK.about("GLASSES a QUARTER (0 at first)");
        CureTown x = Texts.town("cure a: glass 0; cure b: glass 1; cure c: glass 2; cure d: glass 3;");
        for (int s = 0; s < 4; s++) {
            x.guest(0, s, 0, 9, 99);
            CHECK.plans(x, 0, s, 0, 0, 0, 0, 1);
        }
        x.next();
        for (int s = 0; s < 4; s++) {
            CHECK.waters(x, s, 0, 0, 0, 0);
        }
    }

    private static void whichSpring() {
        CHECK.about("SPRINGS 0 .. 3");
        CureTown x = new CureTown();
        CHECK.due("spring 0", x.spring(0, 1, 0, 11, 0), true);
        CHECK.due("spring 1", x.spring(1, 1, 0, 12, 0), true);
        CHECK.due("spring 2", x.spring(2, 1, 0, 13, 0), true);
        CHECK.due("spring 3", x.spring(3, 1, 0, 14, 0), true);
        CHECK.due("spring 4", x.spring(4, 1, 0, 20, 0), false);
        CHECK.due("spring -1", x.spring(-1, 1, 0, 20, 0), false);
        CHECK.due("spring min", x.spring(MIN, 1, 0, 20, 0), false);
        CHECK.due("spring max", x.spring(MAX, 1, 0, 20, 0), false);
        x.next();
        for (int s = 0; s < 4; s++) {
            CHECK.due("given of " + s, x.water(s, 0), 11 + s);
        }
    }

    private static void glassesAQuarter() {
        CHECK.about("GLASSES a QUARTER (0 .. 9)");
        CureTown x = new CureTown();
        CHECK.due("9", x.spring(0, 9, 0, 48, 0), true);
        CHECK.due("10", x.spring(0, 10, 0, 48, 0), false);
        CHECK.due("max", x.spring(0, MAX, 0, 48, 0), false);
        x.next();
        CHECK.due("nine a quarter", x.water(0, 0), 432);
        CHECK.due("0", x.spring(0, 0, 0, 48, 0), true);
        CHECK.due("-1", x.spring(0, -1, 0, 48, 0), false);
        CHECK.due("min", x.spring(0, MIN, 0, 48, 0), false);
        x.next();
        CHECK.due("none a quarter", x.water(0, 0), 432);
        CHECK.due("1", x.spring(0, 1, 0, 48, 0), true);
        x.next();
        CHECK.due("one a quarter", x.water(0, 0), 480);
    }

    private static void fromOn() {
        CHECK.about("from a on");
        CureTown x = Texts.town("cure a: glass 2; cure b: until 5 glass 2; cure c: until 6 glass 2;");
        CHECK.due("from 5", x.spring(2, 1, 5, 48, 0), true);
        x.guest(0, 0, 0, 1, 0);
        x.guest(0, 1, 1, 2, 0);
        x.guest(0, 2, 2, 3, 0);
        CHECK.plans(x, 0, 0, 10, 5);
        CHECK.plans(x, 1, 1, 10, 5);
        CHECK.plans(x, 2, 2, 10, 6);
        CHECK.due("from 0", x.spring(2, 1, 0, 48, 0), true);
        CHECK.plans(x, 0, 0, 10, 0);
        CHECK.due("from -1", x.spring(2, 1, -1, 48, 0), false);
        CHECK.due("from min", x.spring(2, 1, MIN, 48, 0), false);
        CHECK.due("from 47", x.spring(2, 1, 47, 48, 0), true);
        CHECK.plans(x, 0, 0, 10, 47);
        CHECK.plans(x, 0, 0, 0, 1, 48, 1, 0);
    }

    private static void untilAhead() {
        CHECK.about("until ahead of b");
        CureTown x = Texts.town("cure a: until 7 glass 2; cure b: until 8 glass 2;");
        x.spring(2, 1, 0, 8, 0);
        x.guest(0, 0, 0, 1, 0);
        x.guest(0, 1, 1, 2, 0);
        CHECK.plans(x, 0, 0, 0, 1, 8, 1, 0);
        CHECK.plans(x, 1, 1, 0, 0, 0, 0, 1);
        x.spring(2, 1, 0, 9, 0);
        CHECK.plans(x, 1, 1, 0, 1, 9, 1, 0);
    }

    private static void fromAboveUntil() {
        CHECK.about("2: a above b");
        CureTown x = Texts.town("cure a: glass 0;");
        x.guest(0, 0, 0, 9, 0);
        CHECK.due("7, 8", x.spring(0, 3, 7, 8, 0), true);
        CHECK.due("8, 7", x.spring(0, 4, 8, 7, 0), false);
        CHECK.due("48, 47", x.spring(0, 4, 48, 47, 0), false);
        CHECK.due("1, 0", x.spring(0, 4, 1, 0, 0), false);
        CHECK.due("max, min", x.spring(0, 4, MAX, MIN, 0), false);
        CHECK.plans(x, 0, 0, 10, 7);
        x.next();
        CHECK.due("given", x.water(0, 0), 3);
        CHECK.due("8, 8", x.spring(0, 3, 8, 8, 0), true);
        CHECK.plans(x, 1, 0, 0, 0, 0, 0, 1);
        x.next();
        CHECK.due("none is given from 8 on until ahead of 8", x.water(0, 0), 3);
        CHECK.due("0, 0", x.spring(0, 3, 0, 0, 0), true);
        CHECK.plans(x, 2, 0, 0, 0, 0, 0, 1);
    }

    private static void untilFortyEight() {
        CHECK.about("2: 48 at most");
        CureTown x = Texts.town("cure a: until 47 glass 0;");
        x.guest(0, 0, 0, 9, 0);
        CHECK.due("b 48", x.spring(0, 1, 40, 48, 0), true);
        CHECK.due("b 49", x.spring(0, 2, 40, 49, 0), false);
        CHECK.due("b max", x.spring(0, 2, 40, MAX, 0), false);
        CHECK.due("a and b 49", x.spring(0, 2, 49, 49, 0), false);
        CHECK.plans(x, 0, 0, 10, 47);
        x.next();
        CHECK.due("given", x.water(0, 0), 8);
        CHECK.due("a and b 48", x.spring(0, 1, 48, 48, 0), true);
        CHECK.plans(x, 1, 0, 0, 0, 0, 0, 1);
        CHECK.due("b 47", x.spring(0, 1, 40, 47, 0), true);
        CHECK.plans(x, 1, 0, 0, 0, 0, 0, 1);
    }

    private static void strength() {
        CHECK.about("STRENGTH (0 .. 9)");
        CureTown x = Texts.town("cure a: glass 0;");
        for (int bound : new int[] {0, 8, 9}) {
            x.guest(0, 0, 0, 9, bound);
        }
        CHECK.due("9", x.spring(0, 9, 0, 48, 9), true);
        CHECK.due("10", x.spring(0, 9, 0, 48, 10), false);
        CHECK.due("max", x.spring(0, 9, 0, 48, MAX), false);
        CHECK.plans(x, 0, 0, 0, 0);
        CHECK.plans(x, 0, 1, 0, 0);
        CHECK.plans(x, 0, 2, 0, 1);
        CHECK.due("0", x.spring(0, 9, 0, 48, 0), true);
        CHECK.due("-1", x.spring(0, 8, 0, 48, -1), false);
        CHECK.due("min", x.spring(0, 8, 0, 48, MIN), false);
        CHECK.plans(x, 0, 0, 0, 1);
        CHECK.due("1", x.spring(0, 9, 0, 48, 1), true);
        CHECK.plans(x, 0, 0, 0, 0);
    }

    private static void bathsAtFirst() {
        CHECK.about("BATHS: open or not (at first not)");
        CureTown x = Texts.town("cure a: bath 0 1; cure b: bath 1 1; cure c: bath 2 1;");
        for (int kind = 0; kind < 3; kind++) {
            x.guest(0, kind, 0, 9, 0);
            CHECK.plans(x, 0, kind, 0, 0, 0, 0, 1);
        }
        CHECK.due("open", x.bath(3, 0, true), true);
        CHECK.plans(x, 0, 0, 0, 1, 1, 0, 0);
        CHECK.due("not open", x.bath(3, 0, false), true);
        CHECK.plans(x, 0, 0, 0, 0, 0, 0, 1);
    }

    private static void whichBath() {
        CHECK.about("BATHS 0 .. 5");
        CureTown x = Texts.town("cure a: bath 0 1;");
        for (int g = 0; g < 7; g++) {
            x.guest(0, 0, 0, 9, 0);
        }
        for (int k = 0; k < 6; k++) {
            CHECK.due("bath " + k, x.bath(k, 0, true), true);
        }
        CHECK.due("bath 6", x.bath(6, 0, true), false);
        CHECK.due("bath -1", x.bath(-1, 0, true), false);
        CHECK.due("bath min", x.bath(MIN, 0, true), false);
        CHECK.due("bath max", x.bath(MAX, 0, true), false);
        for (int g = 0; g < 6; g++) {
            CHECK.plans(x, 0, g, 50, g);
            CHECK.plans(x, 0, g, 10, 0);
        }
        CHECK.plans(x, 0, 6, 50, 0);
        CHECK.plans(x, 0, 6, 10, 1);
    }

    private static void whichKind() {
        CHECK.about("a KIND 0 .. 2");
        CureTown x = Texts.town("cure a: bath 0 1; cure b: bath 1 1; cure c: bath 2 1;");
        for (int g = 0; g < 3; g++) {
            x.guest(0, g, 0, 9, 0);
        }
        for (int kind = 0; kind < 3; kind++) {
            CHECK.due("kind " + kind, x.bath(5 - kind, kind, true), true);
            CHECK.plans(x, 0, kind, 50, 5 - kind);
        }
        CHECK.due("kind 3", x.bath(5, 3, false), false);
        CHECK.due("kind -1", x.bath(5, -1, false), false);
        CHECK.due("kind min", x.bath(5, MIN, false), false);
        CHECK.due("kind max", x.bath(5, MAX, false), false);
        CHECK.due("bath and kind", x.bath(6, 3, false), false);
        CHECK.plans(x, 0, 0, 50, 5);
        CHECK.due("another kind", x.bath(5, 2, true), true);
        CHECK.plans(x, 0, 0, 0, 0, 0, 0, 1);
        CHECK.plans(x, 0, 2, 50, 3);
    }

    private static CureTown fourRanks() {
        CureTown x = Texts.town("cure a:;");
        for (int rank = 0; rank < 4; rank++) {
            x.guest(rank, 0, 0, 100, 0);
        }
        return x;
    }

    private static void taxes(CureTown x, int... want) {
        for (int g = 0; g < want.length; g++) {
            CHECK.due("bill(" + g + ", 1)", x.bill(g, 1), want[g]);
        }
    }

    private static void ratesAtFirst() {
        CHECK.about("a RATE of the RANK (0 at first)");
        CureTown x = fourRanks();
        x.next();
        taxes(x, 0, 0, 0, 0);
    }

    private static void whichRank() {
        CHECK.about("a RANK 0 .. 3, of a RATE");
        CureTown x = fourRanks();
        for (int rank = 0; rank < 4; rank++) {
            CHECK.due("rank " + rank, x.rate(rank, 10 + rank), true);
        }
        CHECK.due("rank 4", x.rate(4, 50), false);
        CHECK.due("rank -1", x.rate(-1, 50), false);
        CHECK.due("rank min", x.rate(MIN, 50), false);
        CHECK.due("rank max", x.rate(MAX, 50), false);
        x.next();
        taxes(x, 10, 11, 12, 13);
    }

    private static void whichRate() {
        CHECK.about("a RATE (0 .. 999)");
        CureTown x = fourRanks();
        CHECK.due("999", x.rate(0, 999), true);
        CHECK.due("1000", x.rate(0, 1000), false);
        CHECK.due("max", x.rate(0, MAX), false);
        CHECK.due("1", x.rate(1, 1), true);
        CHECK.due("-1", x.rate(1, -1), false);
        CHECK.due("min", x.rate(1, MIN), false);
        CHECK.due("rank and rate", x.rate(4, 1000), false);
        x.next();
        taxes(x, 999, 1, 0, 0);
        CHECK.due("0", x.rate(0, 0), true);
        x.next();
        taxes(x, 999, 2, 0, 0);
    }
}
