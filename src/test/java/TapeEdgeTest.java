/** The boundaries of promises 5 and 6: feed, end. */
public final class TapeEdgeTest {
    private static final Check CHECK = new Check();
    private static final int BLANKS = 0x20202020;

    public static void main(String[] args) {
        highestByteFirst();
        anyByte();
        behindTheTape();
        upToSixHundred();
        aFullTapeIsRead();
        moreThanSixHundred();
        allOfIt();
        notSoMany();
        belowZero();
        anEmptyTape();
        cutBytesAreGone();
        aTokenThatWasCut();
        CHECK.finish();
    }

    private static void highestByteFirst() {
        CHECK.about("5: twenty bytes, of each number the highest first");
        CureTown x = new CureTown();
        for (int place = 0; place < 20; place++) {
            Texts.feed(x, Texts.times(" ", place) + "!");
            CHECK.none("load() with a wrong byte " + place, x.load());
            CHECK.due("fault(0)", x.fault(0), 1);
            CHECK.due("fault(1)", x.fault(1), place);
        }
    }

    private static void anyByte() {
        CHECK.about("5: bytes 0 .. 255 come, 32 and 10 alone are blanks");
        for (int sign = 0; sign < 256; sign++) {
            CureTown x = new CureTown();
            CHECK.due("feed with byte " + sign, x.feed(BLANKS, BLANKS, BLANKS, BLANKS, sign << 24 | 0x202020), 20);
            boolean isBlank = sign == 32 || sign == 10;
            CHECK.due("load() with byte " + sign, x.load(), isBlank ? 0 : CureTown.NONE);
            CHECK.due("fault(1) with byte " + sign, x.fault(1), isBlank ? CureTown.NONE : 16);
        }
    }

    private static void behindTheTape() {
        CHECK.about("5: they come behind the TAPE");
        CureTown x = new CureTown();
        CHECK.due("feed", Texts.feed(x, "cure a: rest 1 rest "), 20);
        CHECK.due("feed", Texts.feed(x, "2 rest 3;"), 40);
        CHECK.due("load()", x.load(), 1);
        x.guest(0, 0, 0, 1, 0);
        CHECK.plans(x, 0, 0, 0, 3, 6, 0, 0);
        CHECK.due("feed, the TAPE being empty", Texts.feed(x, ""), 20);
    }

    private static void fill(CureTown x, int most) {
        for (int n = 20; n <= most; n += 20) {
            CHECK.due("feed", x.feed(BLANKS, BLANKS, BLANKS, BLANKS, BLANKS), n);
        }
    }

    private static void upToSixHundred() {
        CHECK.about("5: how many it has, up to 600");
        CureTown x = new CureTown();
        fill(x, 600);
        x = new CureTown();
        fill(x, 580);
        CHECK.due("end(579)", x.end(579), true);
        CHECK.due("feed to 599", x.feed(BLANKS, BLANKS, BLANKS, BLANKS, BLANKS), 599);
        CHECK.due("end(580)", x.end(580), true);
        CHECK.due("feed to 600", x.feed(BLANKS, BLANKS, BLANKS, BLANKS, BLANKS), 600);
    }

    private static void aFullTapeIsRead() {
        CHECK.about("5: a TAPE of 600 bytes is read to its last byte");
        CureTown x = new CureTown();
        fill(x, 580);
        CHECK.due("feed", Texts.feed(x, Texts.times(" ", 12) + "cure a:;"), 600);
        CHECK.due("load()", x.load(), 1);
        fill(x, 580);
        CHECK.due("feed", Texts.feed(x, Texts.times(" ", 19) + "!"), 600);
        CHECK.none("load()", x.load());
        CHECK.due("fault(1)", x.fault(1), 599);
        fill(x, 580);
        CHECK.due("feed", Texts.feed(x, Texts.times(" ", 16) + "cure"), 600);
        CHECK.none("load()", x.load());
        CHECK.due("fault(1), the end", x.fault(1), 600);
    }

    private static void moreThanSixHundred() {
        CHECK.about("5: NONE, and nothing comes, if there would be more than 600");
        CureTown x = new CureTown();
        fill(x, 600);
        CHECK.none("feed at 600", Texts.feed(x, "cure a:;"));
        CHECK.none("feed at 600 again", Texts.feed(x, "cure a:;"));
        CHECK.due("end(601)", x.end(601), false);
        CHECK.due("end(600)", x.end(600), true);
        CHECK.due("end(581)", x.end(581), true);
        CHECK.none("feed at 581", Texts.feed(x, "cure a:;"));
        CHECK.due("end(582)", x.end(582), false);
        CHECK.due("end(581)", x.end(581), true);
        CHECK.due("end(580)", x.end(580), true);
        CHECK.due("feed at 580", x.feed(BLANKS, BLANKS, BLANKS, BLANKS, BLANKS), 600);
        CHECK.due("load(), all blanks", x.load(), 0);
    }

    private static void allOfIt() {
        CHECK.about("6: its first n bytes alone");
        CureTown x = new CureTown();
        Texts.feed(x, "cure a:;cure b:;!!!!");
        CHECK.due("end(20) of 20", x.end(20), true);
        CHECK.due("end(16) of 20", x.end(16), true);
        CHECK.due("load()", x.load(), 2);
        Texts.feed(x, "cure c:;cure d:;!!!!");
        CHECK.due("end(8) of 20", x.end(8), true);
        CHECK.due("load()", x.load(), 3);
        Texts.feed(x, "cure e:;cure f:;!!!!");
        CHECK.due("end(15) of 20", x.end(15), true);
        CHECK.none("load()", x.load());
        CHECK.due("fault(1)", x.fault(1), 15);
        Texts.feed(x, "!!!!!!!!!!!!!!!!!!!!");
        CHECK.due("end(0) of 20", x.end(0), true);
        CHECK.due("load()", x.load(), 3);
    }

    private static void notSoMany() {
        CHECK.about("6: false, changing nothing, if it has not so many");
        CureTown x = new CureTown();
        Texts.feed(x, "cure a:;cure b:;    ");
        CHECK.due("end(21) of 20", x.end(21), false);
        CHECK.due("end(max) of 20", x.end(Integer.MAX_VALUE), false);
        CHECK.due("feed then", Texts.feed(x, "cure c:;"), 40);
        CHECK.due("end(41) of 40", x.end(41), false);
        CHECK.due("end(28) of 40", x.end(28), true);
        CHECK.due("end(29) of 28", x.end(29), false);
        CHECK.due("load()", x.load(), 3);
        CHECK.due("end(1) of none", x.end(1), false);
    }

    private static void belowZero() {
        CHECK.about("6: false, changing nothing, if n is below 0");
        CureTown x = new CureTown();
        Texts.feed(x, "cure a:;cure b:;    ");
        CHECK.due("end(-1)", x.end(-1), false);
        CHECK.due("end(min)", x.end(Integer.MIN_VALUE), false);
        CHECK.due("feed then", Texts.feed(x, "cure c:;"), 40);
        CHECK.due("load()", x.load(), 3);
        CHECK.due("end(-1) of none", x.end(-1), false);
    }

    private static void anEmptyTape() {
        CHECK.about("6: an empty TAPE has its first 0 bytes");
        CureTown x = new CureTown();
        CHECK.due("end(0)", x.end(0), true);
        CHECK.due("end(1)", x.end(1), false);
        CHECK.due("load()", x.load(), 0);
        CHECK.due("fault(0)", x.fault(0), 0);
        CHECK.due("end(0)", x.end(0), true);
        CHECK.due("feed", Texts.feed(x, ""), 20);
    }

    private static void cutBytesAreGone() {
        CHECK.about("6: alone: what was cut off does not come back");
        CureTown x = new CureTown();
        Texts.feed(x, "cure a:;cure b:;    ");
        CHECK.due("end(8)", x.end(8), true);
        CHECK.due("end(9)", x.end(9), false);
        CHECK.due("end(16)", x.end(16), false);
        CHECK.due("feed", Texts.feed(x, "cure c:;"), 28);
        CHECK.due("load()", x.load(), 2);
        CHECK.none("c came, load()", Texts.load(x, "cure c:;"));
        CHECK.due("b did not, load()", Texts.load(x, "cure b:;"), 3);
    }

    private static void aTokenThatWasCut() {
        CHECK.about("6: alone: a token ends where the TAPE ends");
        String[] texts = {"cure abc", "cure abcdefg", "cure a: rest 17;", "cure a: glass 0", "cure a: rest 1;"};
        int[] lengths = {6, 11, 14, 13, 14};
        for (int i = 0; i < texts.length; i++) {
            CureTown x = new CureTown();
            Texts.put(x, texts[i]);
            CHECK.due("end(" + lengths[i] + ") of '" + texts[i] + "'", x.end(lengths[i]), true);
            CHECK.none("load()", x.load());
            CHECK.due("fault(0), the end", x.fault(0), 1);
            CHECK.due("fault(1), the end", x.fault(1), lengths[i]);
        }
    }
}
