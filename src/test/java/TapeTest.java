/** Promises 5 and 6: feed, end. */
public final class TapeTest {
    private static final Check CHECK = new Check();

    public static void main(String[] args) {
        feedCountsUpToSixHundred();
        feedPutsTheHighestByteFirst();
        endCuts();
        CHECK.finish();
    }

    private static void feedCountsUpToSixHundred() {
        CureTown x = new CureTown();
        for (int n = 20; n <= 600; n += 20) {
            CHECK.due("feed to " + n, x.feed(0x20202020, 0x20202020, 0x20202020, 0x20202020, 0x20202020), n);
        }
        CHECK.due("feed beyond", x.feed(0, 0, 0, 0, 0), CureTown.NONE);
        CHECK.due("end(581)", x.end(581), true);
        CHECK.due("feed beyond by one", x.feed(0, 0, 0, 0, 0), CureTown.NONE);
        CHECK.due("end(580)", x.end(580), true);
        CHECK.due("feed just", x.feed(0x20202020, 0x20202020, 0x20202020, 0x20202020, 0x20202020), 600);
        CHECK.due("six hundred blanks are a text", x.load(), 0);
        CHECK.due("empty then", x.end(1), false);
    }

    private static void feedPutsTheHighestByteFirst() {
        CureTown x = new CureTown();
        // "cure", " a:;", then a byte of each number that can't stand: the first of them is told.
        x.feed(0x63757265, 0x20613a3b, 0x20202080, 0xff202020, 0x20202020);
        CHECK.due("load", x.load(), CureTown.NONE);
        CHECK.due("fault(0)", x.fault(0), 1);
        CHECK.due("fault(1)", x.fault(1), 11);
        x.feed(0x63757265, 0x20613a3b, 0x20202020, 0xff202020, 0x20202020);
        CHECK.due("load", x.load(), CureTown.NONE);
        CHECK.due("fault(1)", x.fault(1), 12);
    }

    private static void endCuts() {
        CureTown x = new CureTown();
        CHECK.due("end(0) of none", x.end(0), true);
        CHECK.due("end(1) of none", x.end(1), false);
        CHECK.due("end(-1) of none", x.end(-1), false);
        Texts.put(x, "cure a:;");
        CHECK.due("end(9) of 8", x.end(9), false);
        CHECK.due("end(min)", x.end(Integer.MIN_VALUE), false);
        CHECK.due("end(max)", x.end(Integer.MAX_VALUE), false);
        CHECK.due("end(8) of 8", x.end(8), true);
        CHECK.due("load", x.load(), 1);
        Texts.put(x, "cure b:;cure c:;");
        CHECK.due("end(8) of 16", x.end(8), true);
        CHECK.due("feed behind 8", x.feed(Texts.word("cure", 0), Texts.word(" d:;", 0), 0x20202020, 0x20202020, 0x20202020), 28);
        CHECK.due("load", x.load(), 3);
        CHECK.due("c was cut off", Texts.load(x, "cure c:;"), 4);
        CHECK.due("d came behind", Texts.load(x, "cure d:;"), CureTown.NONE);
    }
}
