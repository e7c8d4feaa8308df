import java.util.List;
import java.util.function.Consumer;
import java.util.function.ToIntFunction;

/**
 * Every call that is refused, in towns of several kinds: the answer that is due, and that all
 * that the document's other calls show afterwards is as it was before. The same of those calls
 * that only look.
 */
public final class RefusedTest {
    private static final Check CHECK = new Check();
    private static final int NONE = CureTown.NONE;
    private static final int NO = 0;
    private static final int MIN = Integer.MIN_VALUE;
    private static final int MAX = Integer.MAX_VALUE;
    private static final String THIRTY = Texts.times("rest 1 ", 30);

    private final String name;
    private final Consumer<CureTown> history;
    private final List<String> before;

    private RefusedTest(String name, Consumer<CureTown> history) {
        this.name = name;
        this.history = history;
        before = Shown.all(history);
    }

    public static void main(String[] args) {
        theHistoriesAreWhatTheyAreFor();
        RefusedTest busy = new RefusedTest("busy", RefusedTest::busy);
        RefusedTest late = new RefusedTest("late", RefusedTest::late);
        RefusedTest full = new RefusedTest("full", RefusedTest::full);
        RefusedTest fresh = new RefusedTest("new", x -> { });
        for (RefusedTest town : new RefusedTest[] {busy, full, late, fresh}) {
            town.springs();
            town.baths();
            town.rates();
            town.ends();
            town.sells();
            town.looks();
        }
        busy.guests();
        busy.leaves();
        busy.plansAndTaken();
        busy.bests();
        busy.whatOnlyLooks();
        late.leavesLate();
        late.guestsLate();
        late.nexts();
        full.keeps();
        full.guestsMore();
        fresh.ofNobody();
        feeds();
        loads();
        ninthRegimen();
        CHECK.finish();
    }

    /** Day 3, six guests of all ranks there, BEST told and other than the ORDER, bottles of three days, bytes on the tape. */
    private static void busy(CureTown x) {
        Texts.load(x, "cure a: bath 0 16 bath 0 16 bath 0 16;cure b: bath 0 1 glass 0 rest 1 glass 0;");
        Texts.load(x, "cure c: glass 1 glass 2 glass 3 each 2 (bath 1 2) bath 2 1;");
        setUp(x);
        x.guest(0, 0, 0, 60, 10);
        x.guest(1, 1, 0, 70, 8);
        x.guest(2, 2, 1, 80, 14);
        x.guest(3, 2, 2, 90, 13);
        Texts.days(x, 3);
        x.sell(5);
        x.guest(3, 1, 3, 50, 7);
        x.guest(0, 2, 3, 100, 15);
        x.guest(2, 2, 5, 8, 15);
        x.keep(true);
        Texts.load(x, "cure d: rest 1; )");
        Texts.put(x, "cure e: glass 3 rest 2;");
    }

    private static void setUp(CureTown x) {
        x.spring(0, 1, 2, 40, 4);
        x.spring(1, 2, 1, 30, 5);
        x.spring(2, 3, 4, 20, 6);
        x.spring(3, 1, 5, 45, 3);
        x.bath(0, 0, true);
        x.bath(4, 1, true);
        x.bath(5, 2, true);
        for (int rank = 0; rank < 4; rank++) {
            x.rate(rank, 100 * rank + 11);
        }
    }

    /** The same town on its last day. */
    private static void late(CureTown x) {
        Texts.load(x, "cure a: bath 0 16 bath 0 16 bath 0 16;cure b: bath 0 1 glass 0 rest 1 glass 0;");
        setUp(x);
        x.guest(0, 0, 0, 100, 10);
        x.guest(1, 1, 0, 100, 10);
        x.guest(2, 1, 5, 99, 10);
        Texts.days(x, 98);
        x.sell(7);
        x.next();
        x.keep(true);
        Texts.put(x, "cure e: glass 3 rest 2;");
    }

    /** Eight guests there, and BEST told while there were six; nothing on the tape can stand. */
    private static void full(CureTown x) {
        Texts.load(x, "cure a: bath 0 16 bath 0 16 bath 0 16;cure b: bath 0 1 glass 0 rest 1 glass 0;cure c:;");
        setUp(x);
        x.guest(0, 0, 0, 60, 10);
        x.guest(1, 1, 0, 70, 10);
        for (int g = 2; g < 6; g++) {
            x.guest(g % 4, 2, 0, 80, 10);
        }
        x.next();
        x.keep(true);
        x.guest(2, 2, 1, 9, 10);
        x.guest(3, 2, 1, 9, 10);
        Texts.put(x, "))))))))))");
    }

    private static void theHistoriesAreWhatTheyAreFor() {
        CureTown x = new CureTown();
        busy(x);
        CHECK.looks(x, 3, 3, 7, 6);
        CHECK.due("busy: best(3, 10) is not the first by rank", x.best(3, 10) != 0, true);
        CHECK.due("busy: bottles are there", x.look(4) > 9, true);
        CHECK.none("busy: seven on 5", x.best(5, 0));
        x = new CureTown();
        late(x);
        CHECK.looks(x, 99, 2, 3, 2);
        x = new CureTown();
        full(x);
        CHECK.looks(x, 1, 3, 8, 8);
    }

    /** The call's answer is due, and behind it all is shown as it was. */
    private void refused(String call, int due, ToIntFunction<CureTown> ask) {
        CureTown x = new CureTown();
        history.accept(x);
        CHECK.due(name + ": " + call, ask.applyAsInt(x), due);
        unchanged(call, ask);
    }

    private void unchanged(String call, ToIntFunction<CureTown> ask) {
        same(name + ": behind " + call, Shown.all(history.andThen(x -> ask.applyAsInt(x))), before);
    }

    private static void same(String call, List<String> got, List<String> want) {
        CHECK.due(call + " so many answers", got.size(), want.size());
        int wrong = 0;
        for (int i = 0; i < want.size() && i < got.size(); i++) {
            if (!got.get(i).equals(want.get(i))) {
                wrong++;
                if (wrong == 1) {
                    System.out.println(call + ": " + got.get(i) + ", before it " + want.get(i));
                }
            }
        }
        CHECK.due(call + " answers that are others", wrong, 0);
    }

    private static int number(boolean answer) {
        return answer ? 1 : NO;
    }

    private void springs() {
        CHECK.about("2: false, and nothing is done");
        // What can be of each call's numbers is other than what is, so that a part of it would show.
        int[][] wrong = {{-1, 9, 0, 48, 9}, {4, 9, 0, 48, 9}, {0, -1, 0, 48, 9}, {0, 10, 0, 48, 9}, {1, 9, -1, 48, 9},
            {1, 9, 7, 6, 9}, {2, 9, 0, 49, 9}, {2, 9, 49, 49, 9}, {2, 9, 0, -1, 9}, {3, 9, 0, 48, -1}, {3, 9, 0, 48, 10},
            {0, 9, 0, 48, 10}, {1, 9, 0, 48, 10}, {2, 9, 0, 48, -1}, {MIN, 9, 0, 48, 9}, {MAX, 9, 0, 48, 9},
            {0, MAX, 0, 48, 9}, {0, 9, MIN, 48, 9}, {0, 9, 0, MAX, 9}, {0, 9, 0, 48, MIN}};
        for (int[] w : wrong) {
            refused("spring" + java.util.Arrays.toString(w), NO, x -> number(x.spring(w[0], w[1], w[2], w[3], w[4])));
        }
    }

    private void baths() {
        CHECK.about("3: false, and nothing is done");
        int[][] wrong = {{-1, 0}, {6, 0}, {0, -1}, {0, 3}, {1, 3}, {4, 3}, {5, 3}, {5, -1}, {MIN, 0}, {MAX, 0}, {0, MIN}, {0, MAX}};
        for (int[] w : wrong) {
            for (boolean open : new boolean[] {true, false}) {
                refused("bath" + java.util.Arrays.toString(w) + open, NO, x -> number(x.bath(w[0], w[1], open)));
            }
        }
    }

    private void rates() {
        CHECK.about("4: false, and nothing is done");
        int[][] wrong = {{-1, 5}, {4, 5}, {0, -1}, {0, 1000}, {3, 1000}, {3, -1}, {MIN, 5}, {MAX, 5}, {1, MIN}, {2, MAX}};
        for (int[] w : wrong) {
            refused("rate" + java.util.Arrays.toString(w), NO, x -> number(x.rate(w[0], w[1])));
        }
    }

    private void ends() {
        CHECK.about("6: false, changing nothing");
        for (int n : new int[] {-1, 24, 40, 600, 601, MIN, MAX}) {
            refused("end(" + n + ")", NO, x -> number(x.end(n)));
        }
    }

    private void sells() {
        CHECK.about("19: NONE for another number");
        for (int n : new int[] {0, -1, 1000, MIN, MAX}) {
            refused("sell(" + n + ")", NONE, x -> x.sell(n));
        }
    }

    private void looks() {
        CHECK.about("8, 11, 17, 18, 20: NONE changes nothing");
        for (int wrong : new int[] {-1, 100, MIN, MAX}) {
            refused("fault(" + wrong + ")", NONE, x -> x.fault(wrong));
            refused("look(" + wrong + ")", NONE, x -> x.look(wrong));
            refused("water(" + wrong + ", 0)", NONE, x -> x.water(wrong, 0));
            refused("water(0, " + wrong + ")", NONE, x -> x.water(0, wrong));
            refused("bottles(" + wrong + ", 0)", NONE, x -> x.bottles(wrong, 0));
            refused("bottles(0, " + wrong + ")", NONE, x -> x.bottles(0, wrong));
            refused("bill(" + wrong + ", 0)", NONE, x -> x.bill(wrong, 0));
            refused("bill(0, " + wrong + ")", NONE, x -> x.bill(0, wrong));
        }
    }

    private void guests() {
        CHECK.about("9: NONE, and nothing is done: something can't be");
        int[][] wrong = {{-1, 0, 3, 9, 5}, {4, 0, 3, 9, 5}, {0, -1, 3, 9, 5}, {0, 3, 3, 9, 5}, {0, 0, 2, 9, 5}, {0, 0, -1, 9, 5},
            {0, 0, 3, 3, 5}, {0, 0, 4, 3, 5}, {0, 0, 3, 101, 5}, {0, 0, 100, 100, 5}, {0, 0, 100, 101, 5}, {0, 0, 3, 9, -1},
            {0, 0, 3, 9, 100}, {MIN, 0, 3, 9, 5}, {0, MAX, 3, 9, 5}, {0, 0, MIN, 9, 5}, {0, 0, 3, MAX, 5}, {0, 0, 3, 9, MIN}};
        for (int[] w : wrong) {
            refused("guest" + java.util.Arrays.toString(w), NONE, x -> x.guest(w[0], w[1], w[2], w[3], w[4]));
        }
    }

    private void leaves() {
        CHECK.about("10: false, and nothing is done, if that can't be");
        int[][] wrong = {{-1, 9}, {7, 9}, {8, 9}, {MIN, 9}, {MAX, 9}, {0, 2}, {0, 0}, {0, -1}, {0, 61}, {4, 3}, {4, 51}, {6, 5}, {6, 4},
            {6, 9}, {5, 101}, {0, MIN}, {0, MAX}};
        for (int[] w : wrong) {
            refused("leave" + java.util.Arrays.toString(w), NO, x -> number(x.leave(w[0], w[1])));
        }
    }

    private void plansAndTaken() {
        CHECK.about("12, 13: NONE changes nothing");
        int[][] wrong = {{2, 0, 0}, {-1, 0, 0}, {100, 0, 0}, {3, -1, 0}, {3, 6, 0}, {3, 7, 0}, {3, 0, -1}, {3, 0, 4}, {3, 0, 49},
            {3, 0, 120}, {MIN, 0, 0}, {3, MAX, 0}, {3, 0, MAX}};
        for (int[] w : wrong) {
            refused("plan" + java.util.Arrays.toString(w), NONE, x -> x.plan(w[0], w[1], w[2]));
        }
        int[][] untaken = {{2, 0, 0}, {-1, 0, 0}, {100, 0, 0}, {3, -1, 0}, {3, 4, 0}, {3, 0, -1}, {3, 0, 48}, {3, MAX, 0}, {3, 0, MIN}};
        for (int[] w : untaken) {
            refused("taken" + java.util.Arrays.toString(w), NONE, x -> x.taken(w[0], w[1], w[2]));
        }
    }

    private void bests() {
        CHECK.about("14: NONE changes nothing");
        int[][] wrong = {{2, 0}, {-1, 0}, {100, 0}, {5, 0}, {5, 10}, {3, -1}, {3, 2}, {3, 9}, {3, 16}, {MIN, 0}, {3, MAX}};
        for (int[] w : wrong) {
            refused("best" + java.util.Arrays.toString(w), NONE, x -> x.best(w[0], w[1]));
        }
    }

    private void whatOnlyLooks() {
        CHECK.about("12, 13, 14: a DAY that is only LAID OUT does not count");
        for (int day : new int[] {3, 4, 5, 99}) {
            unchanged("plan(" + day + ", 0, 0)", x -> x.plan(day, 0, 0));
            unchanged("plan(" + day + ", 1, 10)", x -> x.plan(day, 1, 10));
            unchanged("taken(" + day + ", 0, 2)", x -> x.taken(day, 0, 2));
            unchanged("best(" + day + ", 0)", x -> x.best(day, 0));
            unchanged("best(" + day + ", 10)", x -> x.best(day, 10));
        }
        CHECK.about("8, 11, 17, 18, 20: what only looks");
        for (int what = 0; what < 7; what++) {
            int asked = what;
            unchanged("look(" + what + ")", x -> x.look(asked));
            unchanged("fault(" + what + ")", x -> x.fault(asked));
            unchanged("water(0, " + what + ")", x -> x.water(0, asked));
            unchanged("bill(0, " + what + ")", x -> x.bill(0, asked));
            unchanged("bottles(0, " + what + ")", x -> x.bottles(0, asked));
        }
    }

    private void leavesLate() {
        CHECK.about("10: false, and nothing is done, on DAY 99");
        int[][] wrong = {{0, 98}, {0, 101}, {1, 0}, {2, 98}, {2, 100}, {3, 99}};
        for (int[] w : wrong) {
            refused("leave" + java.util.Arrays.toString(w), NO, x -> number(x.leave(w[0], w[1])));
        }
    }

    private void guestsLate() {
        CHECK.about("9: NONE, and nothing is done, on DAY 99");
        int[][] wrong = {{0, 0, 98, 100, 5}, {0, 0, 99, 99, 5}, {0, 0, 99, 101, 5}, {0, 0, 100, 101, 5}, {0, 2, 99, 100, 5}};
        for (int[] w : wrong) {
            refused("guest" + java.util.Arrays.toString(w), NONE, x -> x.guest(w[0], w[1], w[2], w[3], w[4]));
        }
    }

    private void nexts() {
        CHECK.about("16: NONE, and nothing is done, on DAY 99");
        refused("next()", NONE, CureTown::next);
    }

    private void keeps() {
        CHECK.about("15: false, and nothing is done, if more than 6 are there");
        refused("keep(true)", NO, x -> number(x.keep(true)));
        refused("keep(false)", NO, x -> number(x.keep(false)));
        // What was told ahead still is told: as two have gone, BEST counts.
        for (boolean best : new boolean[] {true, false}) {
            CureTown x = new CureTown();
            full(x);
            CHECK.due("eight: keep(" + best + ")", x.keep(best), false);
            CHECK.due("leave(2, 1)", x.leave(2, 1), true);
            CHECK.due("seven: keep(" + best + ")", x.keep(best), false);
            CHECK.due("leave(3, 1)", x.leave(3, 1), true);
            CHECK.due("in its ORDER: bill(1, 3)", x.bill(1, 3), 0);
            x.next();
            CHECK.due("in BEST ORDER: bill(1, 3)", x.bill(1, 3), 4);
        }
    }

    private void guestsMore() {
        CHECK.about("9: NONE, and nothing is done: there were 8");
        refused("guest(0, 0, 1, 9, 5)", NONE, x -> x.guest(0, 0, 1, 9, 5));
        refused("guest(3, 2, 99, 100, 0)", NONE, x -> x.guest(3, 2, 99, 100, 0));
    }

    private void ofNobody() {
        CHECK.about("9, 10, 12, 20: nobody, no REGIMEN");
        refused("guest(0, 0, 0, 1, 0)", NONE, x -> x.guest(0, 0, 0, 1, 0));
        refused("leave(0, 1)", NO, x -> number(x.leave(0, 1)));
        refused("plan(0, 0, 0)", NONE, x -> x.plan(0, 0, 0));
        refused("bill(0, 0)", NONE, x -> x.bill(0, 0));
        refused("best(0, 10)", NONE, x -> x.best(0, 10));
        refused("end(1)", NO, x -> number(x.end(1)));
    }

    private static void feeds() {
        CHECK.about("5: NONE, and nothing comes");
        String regimen = "cure x: rest 3 glass 0 rest 2;";
        for (int length : new int[] {581, 590, 600}) {
            String text = regimen + Texts.times(" ", length - regimen.length());
            RefusedTest town = new RefusedTest("tape of " + length, x -> {
                Texts.load(x, "cure a: rest 1;");
                setUp(x);
                Texts.put(x, text);
            });
            town.refused("feed of a wrong byte", NONE, x -> Texts.feed(x, "!"));
            town.refused("feed of a regimen", NONE, x -> Texts.feed(x, "cure y:;"));
            town.refused("feed of zeros", NONE, x -> x.feed(0, 0, 0, 0, 0));
        }
    }

    /** The tape is empty behind a load() in any case, so the town before it has an empty one too. */
    private static void faulty(String text, int fault) {
        Consumer<CureTown> empty = ((Consumer<CureTown>) RefusedTest::busy).andThen(x -> x.end(0));
        Consumer<CureTown> loaded = empty.andThen(x -> Texts.load(x, text));
        CureTown x = new CureTown();
        loaded.accept(x);
        CHECK.due("fault(0) of '" + text + "'", x.fault(0), fault);
        CHECK.due("end(1) behind '" + text + "'", x.end(1), false);
        same("behind load() of '" + text + "'", Shown.butTapeAndFault(loaded), Shown.butTapeAndFault(empty));
    }

    private static void loads() {
        CHECK.about("7: NONE: a FAULT; A TEXT with a FAULT changes nothing");
        faulty("cure d: rest 1; x", 1);
        faulty("cure d: rest 1; cure e: rest 2; cure f: rest 3", 1);
        faulty("cure d: each 1 (each 2 (rest 1 ;", 1);
        faulty("cure d: rest 1; cure b:;", 2);
        faulty("cure d: rest 1; cure d:;", 2);
        faulty("cure a: rest 1;", 2);
        faulty("cure d: rest 1; cure e: rest 17;", 3);
        faulty("cure d: bath 1 1 glass 4;", 3);
        faulty("cure d: each 1 (until 48);", 3);
        faulty("cure d:;cure e:;cure f:;cure g:;cure h:;cure i:;", 4);
        faulty("cure d:" + THIRTY + "rest 1;", 4);
        faulty("cure d:" + Texts.times("each 1 (", 6), 4);
    }

    private static void ninthRegimen() {
        CHECK.about("4 (at cure) the 9th REGIMEN: it changes nothing");
        Consumer<CureTown> eight = x -> {
            Texts.load(x, "cure a: rest 1;cure b: rest 2;cure c: rest 3;cure d: rest 4;");
            Texts.load(x, "cure e: rest 5;cure f: rest 6;cure g: rest 7;cure h: rest 8;");
            setUp(x);
            for (int g = 0; g < 7; g++) {
                x.guest(g % 4, 7 - g, 0, 9, 0);
            }
        };
        Consumer<CureTown> nine = eight.andThen(x -> Texts.load(x, "cure i: rest 9;"));
        same("behind a ninth", Shown.butTapeAndFault(nine), Shown.butTapeAndFault(eight));
    }
}
