/** The boundaries of promises 7 and 8, load and fault, and of the text that they read. */
public final class TextEdgeTest {
    private static final Check CHECK = new Check();
    private static final String EIGHT = "cure a:;cure b:;cure c:;cure d:;cure e:;cure f:;cure g:;cure h:;";
    private static final String THIRTY = Texts.times("rest 1 ", 30);
    private static final String FIVE_OPEN = Texts.times("each 1(", 5);

    public static void main(String[] args) {
        emptyTexts();
        emptyCures();
        numberedAsTheyCome();
        eightRegimens();
        thirtyActs();
        eachOneApiece();
        thirtyToEachRegimen();
        lettersTogether();
        lettersOfBothKinds();
        almostKeywords();
        namesOfSixLetters();
        digitsTogether();
        signs();
        blanks();
        theFirstFault();
        theLeastFault();
        whatCantStand();
        theEnd();
        namesTwice();
        springsAboveThree();
        kindsAboveTwo();
        quartersOfABath();
        quartersOfARest();
        untilAboveFortySeven();
        eachOneToNine();
        theNinthRegimen();
        theThirtyFirstAct();
        theSixthBracket();
        aFaultChangesNothing();
        theTapeIsEmptyThen();
        whatOfAFault();
        theLatestLoad();
        CHECK.finish();
    }

    private static void good(String text, int regimens) {
        CureTown x = new CureTown();
        CHECK.due("load of '" + text + "'", Texts.load(x, text), regimens);
        CHECK.due("fault(0) of '" + text + "'", x.fault(0), 0);
        CHECK.none("fault(1) of '" + text + "'", x.fault(1));
        CHECK.due("look(1) of '" + text + "'", x.look(1), regimens);
    }

    private static void bad(String text, int fault, int place) {
        CureTown x = new CureTown();
        CHECK.none("load of '" + text + "'", Texts.load(x, text));
        CHECK.due("fault(0) of '" + text + "'", x.fault(0), fault);
        CHECK.due("fault(1) of '" + text + "'", x.fault(1), place);
        CHECK.due("look(1) of '" + text + "'", x.look(1), 0);
    }

    /** The fault stands where the text's last mark '!' stands; the mark itself is taken out. */
    private static void badAt(String marked, int fault) {
        int place = marked.lastIndexOf('!');
        bad(marked.substring(0, place) + marked.substring(place + 1), fault, place);
    }

    /** What the text's only regimen comes to for a guest on day 0. */
    private static void laidOut(String text, int done, int over) {
        CureTown x = Texts.town(text);
        x.guest(0, 0, 0, 1, 0);
        CHECK.due("done of '" + text + "'", x.plan(0, 0, 0), done);
        CHECK.due("end of '" + text + "'", x.plan(0, 0, 1), over);
    }

    private static void emptyTexts() {
        CHECK.about("A TEXT = {..}: none at all");
        good("", 0);
        good(" ", 0);
        good("\n", 0);
        good(Texts.times(" \n", 300), 0);
        CureTown x = Texts.town("cure a:;");
        CHECK.due("an empty text behind one", x.load(), 1);
    }

    private static void emptyCures() {
        CHECK.about("cure NAME : {ACT} ;, each NUMBER ( {ACT} ): none in it");
        good("cure a:;", 1);
        good("cure a : ;", 1);
        good("cure a: each 1 ();", 1);
        good("cure a: each 1 (each 1 ( ) each 1()) ;", 1);
        laidOut("cure a:;", 0, 0);
        laidOut("cure a: each 1 () rest 1;", 1, 1);
        badAt("cure a: each 1 () !()", 1);
    }

    private static void numberedAsTheyCome() {
        CHECK.about("REGIMENS are numbered as they come, behind those that are there");
        CureTown x = Texts.town("cure b: rest 1; cure a: rest 2;");
        CHECK.due("load()", Texts.load(x, "cure d: rest 3; cure c: rest 4;"), 4);
        for (int regimen = 0; regimen < 4; regimen++) {
            x.guest(0, regimen, 0, 1, 0);
            CHECK.plans(x, 0, regimen, 1, regimen + 1);
        }
        CHECK.none("guest of regimen 4", x.guest(0, 4, 0, 1, 0));
    }

    private static void eightRegimens() {
        CHECK.about("REGIMENS (8 at most)");
        good(EIGHT, 8);
        good(EIGHT.substring(0, 56), 7);
        CureTown x = Texts.town(EIGHT.substring(0, 56));
        CHECK.due("the eighth alone", Texts.load(x, "cure h: rest 9;"), 8);
        CHECK.due("its guest", x.guest(0, 7, 0, 1, 0), 0);
        CHECK.plans(x, 0, 0, 1, 9);
        CHECK.due("no more of them", Texts.load(x, " "), 8);
    }

    private static void thirtyActs() {
        CHECK.about("each has 30 ACTS at most");
        good("cure a:" + THIRTY + ";", 1);
        laidOut("cure a:" + THIRTY + ";", 30, 30);
        good("cure a:" + Texts.times("until 1 ", 30) + ";", 1);
        good("cure a:" + Texts.times("bath 0 1 ", 30) + ";", 1);
        good("cure a:" + Texts.times("glass 0 ", 30) + ";", 1);
        badAt("cure a:" + THIRTY + "!rest 1;", 4);
    }

    private static void eachOneApiece() {
        CHECK.about("each and what is in it one apiece");
        good("cure a: each 1 (" + Texts.times("rest 1 ", 29) + ");", 1);
        laidOut("cure a: each 1 (" + Texts.times("rest 1 ", 29) + ");", 29, 29);
        badAt("cure a: each 1 (" + Texts.times("rest 1 ", 29) + "!rest 1);", 4);
        badAt("cure a: each 1 (" + Texts.times("rest 1 ", 29) + ") !rest 1;", 4);
        good("cure a:" + Texts.times("each 1()", 30) + ";", 1);
        badAt("cure a:" + Texts.times("each 1()", 30) + "!each 1();", 4);
        good("cure a:" + FIVE_OPEN + Texts.times("rest 1 ", 25) + ")))));", 1);
        badAt("cure a:" + FIVE_OPEN + Texts.times("rest 1 ", 25) + "!rest 1 )))));", 4);
    }

    private static void thirtyToEachRegimen() {
        CHECK.about("each REGIMEN has its own 30 ACTS");
        good("cure a:" + THIRTY + ";cure b:" + THIRTY + ";", 2);
        badAt("cure a: rest 1;cure b:" + THIRTY + "!rest 1;", 4);
        CureTown x = Texts.town("cure a:" + THIRTY + ";");
        CHECK.due("load()", Texts.load(x, "cure b:" + THIRTY + ";"), 2);
        x.guest(0, 1, 0, 1, 0);
        CHECK.plans(x, 0, 0, 0, 30, 30, 0, 0);
    }

    private static void lettersTogether() {
        CHECK.about("letters as many as stand together");
        good("cure a:rest 1rest 2until 3;", 1);
        badAt("!curea:;", 1);
        badAt("cure a: !restt 1;", 1);
        badAt("cure a: !restrest 1;", 1);
        badAt("cure a: !resta 1;", 1);
        badAt("cure a: !re st 1;", 1);
        badAt("cure a: !res", 1);
        badAt("cure re\n!st:;", 1);
        good("cure curec:;cure curecu:;cure glas:;cure bat:;cure baths:;cure eachh:;cure unti:;cure untill:;", 8);
    }

    private static void lettersOfBothKinds() {
        CHECK.about("letters: small and capital ones, and nothing beside them");
        for (String letter : new String[] {"a", "z", "A", "Z", "M"}) {
            badAt("cure a: !rest" + letter + " 1;", 1);
            badAt("cure a: !" + letter + "rest 1;", 1);
        }
        for (String sign : new String[] {"@", "[", "`", "{", "\u00aa", "\u00c4", "\u00e4", "\u00ff"}) {
            badAt("cure a: rest!" + sign + " 1;", 1);
        }
        for (String sign : new String[] {"/", ":", "\u00b2", "\u00b9"}) {
            badAt("cure a: rest 1!" + sign + ";", 1);
        }
    }

    private static void almostKeywords() {
        CHECK.about("KEYWORDS (cure glass bath rest until each): one letter other is a NAME");
        for (String keyword : new String[] {"cure", "glass", "bath", "rest", "until", "each"}) {
            for (int i = 0; i < keyword.length(); i++) {
                String name = keyword.substring(0, i) + 'q' + keyword.substring(i + 1);
                good("cure " + name + ":;", 1);
                bad("cure a: " + name + " 1;", 1, 8);
            }
            good("cure " + keyword.substring(1) + ":;", 1);
            good("cure " + keyword.substring(0, keyword.length() - 1) + ":;", 1);
            good("cure " + keyword + "s:;", 1);
        }
    }

    private static void namesOfSixLetters() {
        CHECK.about("NAMES (1 to 6 small letters)");
        good("cure a:;cure z:;", 2);
        good("cure abcdef:;cure zzzzzz:;cure aaaaaa:;", 3);
        badAt("cure !abcdefg:;", 1);
        badAt("cure !zzzzzzz:;", 1);
        badAt("cure !" + Texts.times("a", 500) + ":;", 1);
        badAt("cure !A:;", 1);
        badAt("cure !Z:;", 1);
        badAt("cure !abcDef:;", 1);
        badAt("cure a!1:;", 1);
        badAt("cure !:;", 1);
        badAt("cure !_:;", 1);
        badAt("cure !{:;", 1);
        badAt("cure !`:;", 1);
        badAt("cure !\u00e9:;", 1);
        for (String keyword : new String[] {"cure", "glass", "bath", "rest", "until", "each"}) {
            badAt("cure !" + keyword + ":;", 1);
        }
    }

    private static void digitsTogether() {
        CHECK.about("digits as many as stand together NUMBERS of 1 or 2 digits or none");
        laidOut("cure a: rest 1;", 1, 1);
        laidOut("cure a: rest 01;", 1, 1);
        laidOut("cure a: rest 16;", 1, 16);
        badAt("cure a: rest !016;", 1);
        badAt("cure a: rest !001;", 1);
        badAt("cure a: rest !100;", 1);
        badAt("cure a: rest !4294967297;", 1);
        badAt("cure a: rest !" + Texts.times("0", 500) + "1;", 1);
        badAt("cure a: rest 1 !6;", 1);
        badAt("cure a: bath 01!;", 1);
        laidOut("cure a: rest1rest02rest3;", 3, 6);
        badAt("cure a: rest 1!a;", 1);
        badAt("cure a: rest !/;", 1);
        badAt("cure a: rest !:;", 1);
        badAt("cure a: rest !-1;", 1);
        badAt("cure a: rest !+1;", 1);
    }

    private static void signs() {
        CHECK.about("TOKENS: : ; ( )");
        good("cure a:each1();", 1);
        String wrong = "!\"#$%&'*+,-./<=>?@[\\]^_`{|}~\t\r\0\u007f\u0080\u00ff";
        for (int i = 0; i < wrong.length(); i++) {
            bad("cure a: " + wrong.charAt(i) + "rest 1;", 1, 8);
            bad("cure a:" + wrong.charAt(i) + ";", 1, 7);
        }
        badAt("cure a !;;", 1);
        badAt("cure a !(;", 1);
        badAt("cure a: !:;", 1);
        badAt("cure a: each 1 ![];", 1);
        badAt("cure a: each 1 (!];", 1);
    }

    private static void blanks() {
        CHECK.about("Blanks (32, 10) between");
        good("\n cure \n a \n : \n each \n 1 \n ( \n bath \n 1 \n 2 \n ) \n ; \n ", 1);
        good("cure\na:bath 1\n2;", 1);
        for (char sign : new char[] {9, 11, 12, 13, 31, 33, 0, 160}) {
            bad("cure a: rest" + sign + "1;", 1, 12);
        }
    }

    private static void theFirstFault() {
        CHECK.about("FAULTS, the first by its place");
        badAt("cure a: rest !0 rest 0;", 3);
        badAt("cure a: rest !17 )", 3);
        badAt("cure a: !) rest 17;", 1);
        badAt("cure a:;cure !a: glass 9;", 2);
        badAt("cure b: glass !9;cure b:;", 3);
        badAt("cure a: bath !3 0;", 3);
        badAt("cure a: bath 2 !0 x", 3);
        badAt("cure a: each !0 rest 1;", 3);
        badAt(EIGHT + "!cure a: glass 9;", 4);
        badAt(EIGHT + "!cure cure", 4);
        badAt("cure a:" + THIRTY + "!glass 9;", 4);
        badAt("cure a:" + THIRTY + "!each 0;", 4);
        badAt("cure a:" + FIVE_OPEN + "each 1 !(rest 0", 4);
        badAt("cure a:" + FIVE_OPEN + "each !0 (rest 0", 3);
        badAt("cure a:" + FIVE_OPEN + Texts.times("rest 1 ", 25) + "!each 1 (", 4);
    }

    private static void theLeastFault() {
        CHECK.about("FAULTS, at one place the least");
        badAt("cure a:; !a", 1);
        badAt("cure a: !a;", 1);
        badAt("cure !99:;", 1);
        badAt("cure a: rest 1 !99;", 1);
        badAt("cure a:" + Texts.times("rest 1 ", 29) + "rest !rest 1;", 1);
        badAt("cure a:" + Texts.times("rest 1 ", 29) + "each 1 !rest 1;", 1);
        badAt(EIGHT.substring(0, 63) + "!cure i:;", 1);
        badAt("cure a:" + FIVE_OPEN + "!(", 1);
        badAt("cure a:" + FIVE_OPEN + "rest 1 !(", 1);
        badAt("cure a:" + FIVE_OPEN + "each !(", 1);
    }

    private static void whatCantStand() {
        CHECK.about("1 what can't stand there");
        String[] tokens = {"cure", "glass", "bath", "rest", "until", "each", "b", "1", ":", ";", "(", ")", "B", "001"};
        standing("", tokens, "cure");
        standing("cure ", tokens, "b");
        standing("cure a ", tokens, ":");
        standing("cure a: ", tokens, "glass bath rest until each ;");
        standing("cure a: rest ", tokens, "1");
        standing("cure a: glass ", tokens, "1");
        standing("cure a: until ", tokens, "1");
        standing("cure a: bath ", tokens, "1");
        standing("cure a: bath 1 ", tokens, "1");
        standing("cure a: each ", tokens, "1");
        standing("cure a: each 1 ", tokens, "(");
        standing("cure a: each 1 (", tokens, "glass bath rest until each )");
        standing("cure a: each 1 (rest 1 ", tokens, "glass bath rest until each )");
        standing("cure a: each 1 (each 1 () ", tokens, "glass bath rest until each )");
        standing("cure a: each 1 () ", tokens, "glass bath rest until each ;");
        standing("cure a: rest 1 ", tokens, "glass bath rest until each ;");
        standing("cure a: bath 1 1 ", tokens, "glass bath rest until each ;");
        standing("cure a:; ", tokens, "cure");
    }

    /** Behind the head each token either can stand, and then no fault is at its place, or is told with fault 1. */
    private static void standing(String head, String[] tokens, String can) {
        String listed = " " + can + " ";
        for (String token : tokens) {
            CureTown x = new CureTown();
            Texts.load(x, head + token);
            boolean stands = listed.contains(" " + token + " ");
            boolean isTold = x.fault(0) == 1 && x.fault(1) == head.length();
            CHECK.due("'" + token + "' can't stand behind '" + head + "'", isTold, !stands);
        }
    }

    private static void theEnd() {
        CHECK.about("1 (the end: the text's length)");
        String whole = "cure a: glass 1 bath 2 3 each 4 ( rest 5 ) ;";
        for (String head : new String[] {"cure", "cure a", "cure a:", "cure a: glass", "cure a: glass 1", "cure a: bath",
            "cure a: bath 2", "cure a: bath 2 3", "cure a: each", "cure a: each 4", "cure a: each 4 (",
            "cure a: each 4 ( rest 5", "cure a: each 4 ( rest 5 )", whole + "cure"}) {
            bad(head, 1, head.length());
            bad(head + " ", 1, head.length() + 1);
            bad(head + " \n \n", 1, head.length() + 4);
        }
        good(whole, 1);
        good(whole + " \n ", 1);
    }

    private static void namesTwice() {
        CHECK.about("2 (at a NAME) a REGIMEN of it is there, or told ahead");
        badAt("cure a:;cure !a:;", 2);
        badAt("cure abcdef:;cure b:;cure !abcdef:;", 2);
        badAt("cure a:;cure !a", 2);
        good("cure abcdef:;cure abcdee:;cure bbcdef:;cure abcde:;cure bcdef:;cure fedcba:;", 6);
        good("cure a:;cure aa:;cure aaa:;cure aaaa:;cure aaaaa:;cure aaaaaa:;", 6);
        CureTown x = Texts.town("cure one:; cure two:;");
        for (String name : new String[] {"one", "two"}) {
            CHECK.none("load of " + name, Texts.load(x, "cure " + name + ":;"));
            CHECK.due("fault(0)", x.fault(0), 2);
            CHECK.due("fault(1)", x.fault(1), 5);
        }
        CHECK.none("load of six and two", Texts.load(x, "cure six:;cure two:;"));
        CHECK.due("fault(1)", x.fault(1), 15);
        CHECK.due("a name of a text with a fault is free, load()", Texts.load(x, "cure six:;"), 3);
        CHECK.none("now it is not, load()", Texts.load(x, "cure six:;"));
        CHECK.due("fault(0)", x.fault(0), 2);
    }

    private static void springsAboveThree() {
        CHECK.about("3 a SPRING above 3");
        good("cure a: glass 0 glass 3 glass 00 glass 03;", 1);
        badAt("cure a: glass !4;", 3);
        badAt("cure a: glass !04;", 3);
        badAt("cure a: glass !99;", 3);
        badAt("cure a: each 1 (glass !4);", 3);
    }

    private static void kindsAboveTwo() {
        CHECK.about("3 a KIND above 2");
        good("cure a: bath 0 1 bath 2 1;", 1);
        badAt("cure a: bath !3 1;", 3);
        badAt("cure a: bath !99 1;", 3);
    }

    private static void quartersOfABath() {
        CHECK.about("3 QUARTERS of a bath that are not 1 .. 16");
        good("cure a: bath 0 1 bath 0 16;", 1);
        badAt("cure a: bath 0 !0;", 3);
        badAt("cure a: bath 0 !00;", 3);
        badAt("cure a: bath 0 !17;", 3);
        badAt("cure a: bath 0 !99;", 3);
    }

    private static void quartersOfARest() {
        CHECK.about("3 QUARTERS of a rest that are not 1 .. 16");
        laidOut("cure a: rest 1 rest 16;", 2, 17);
        badAt("cure a: rest !0;", 3);
        badAt("cure a: rest !17;", 3);
        badAt("cure a: rest !99;", 3);
    }

    private static void untilAboveFortySeven() {
        CHECK.about("3 until above 47");
        laidOut("cure a: until 0 rest 1;", 1, 1);
        laidOut("cure a: until 47 rest 1;", 1, 48);
        badAt("cure a: until !48;", 3);
        badAt("cure a: until !99;", 3);
    }

    private static void eachOneToNine() {
        CHECK.about("3 each not 1 .. 9");
        good("cure a: each 1 () each 9 () each 09 ();", 1);
        badAt("cure a: each !0 ();", 3);
        badAt("cure a: each !10 ();", 3);
        badAt("cure a: each !99 ();", 3);
    }

    private static void theNinthRegimen() {
        CHECK.about("4 (at cure) the 9th REGIMEN");
        badAt(EIGHT + "!cure i:;", 4);
        badAt(EIGHT + " \n!cure", 4);
        badAt(EIGHT + "!i", 1);
        CureTown x = Texts.town(EIGHT);
        CHECK.none("load()", Texts.load(x, "  cure i:;"));
        CHECK.due("fault(0)", x.fault(0), 4);
        CHECK.due("fault(1)", x.fault(1), 2);
        CHECK.due("look(1)", x.look(1), 8);
        x = Texts.town(EIGHT.substring(0, 56));
        CHECK.none("two behind seven", Texts.load(x, "cure x:;cure y:;"));
        CHECK.due("fault(0)", x.fault(0), 4);
        CHECK.due("fault(1)", x.fault(1), 8);
        CHECK.due("none of the two came", x.look(1), 7);
        CHECK.due("one behind seven", Texts.load(x, "cure x:;"), 8);
    }

    private static void theThirtyFirstAct() {
        CHECK.about("4 (at an ACT's KEYWORD) the 31st");
        for (String act : new String[] {"glass 0", "bath 0 1", "rest 1", "until 1", "each 1 ()"}) {
            good("cure a:" + Texts.times("rest 1 ", 29) + act + ";", 1);
            badAt("cure a:" + THIRTY + " !" + act + ";", 4);
        }
        badAt("cure a:" + THIRTY + "!glass", 4);
    }

    private static void theSixthBracket() {
        CHECK.about("4 (at the opening bracket) the 6th that is open");
        good("cure a:" + FIVE_OPEN + "rest 1)))));", 1);
        badAt("cure a:" + FIVE_OPEN + "each 1 !()))))));", 4);
        good("cure a:" + FIVE_OPEN + ") each 1 () each 1 ())))) each 1 ();", 1);
        badAt("cure a:" + FIVE_OPEN + ") each 1 (each 1 !(", 4);
        good("cure a:" + FIVE_OPEN + ")))));cure b:" + FIVE_OPEN + ")))));", 2);
        badAt("cure a:" + FIVE_OPEN + ")))));cure b:" + FIVE_OPEN + "each 1!(", 4);
        laidOut("cure a:" + FIVE_OPEN + "rest 1)))) rest 2) rest 3;", 3, 6);
    }

    private static void aFaultChangesNothing() {
        CHECK.about("A TEXT with a FAULT changes nothing");
        String[] texts = {"cure c: rest 3; x", "cure c: rest 3; cure a:;", "cure c: rest 3 rest 17;",
            "cure c:" + THIRTY + "rest 1;", "cure c: each 1 (rest 3", EIGHT.substring(16) + "cure x:;cure y:;cure z:;"};
        for (String text : texts) {
            CureTown x = Texts.town("cure a: rest 1; cure b: rest 2;");
            x.guest(0, 0, 0, 9, 0);
            x.guest(0, 1, 0, 9, 0);
            CHECK.none("load of '" + text + "'", Texts.load(x, text));
            CHECK.due("look(1)", x.look(1), 2);
            CHECK.none("guest of regimen 2", x.guest(0, 2, 0, 9, 0));
            CHECK.plans(x, 0, 0, 0, 1, 1, 0, 0);
            CHECK.plans(x, 0, 1, 0, 1, 2, 0, 0);
            CHECK.due("c is free, load()", Texts.load(x, "cure c: rest 5;"), 3);
            CHECK.due("guest of regimen 2", x.guest(0, 2, 0, 9, 0), 2);
            CHECK.plans(x, 0, 2, 0, 1, 5, 0, 0);
        }
    }

    private static void theTapeIsEmptyThen() {
        CHECK.about("7: the TAPE, empty then");
        for (String text : new String[] {"cure a:;", "x", "", "cure a:;cure b:; )"}) {
            CureTown x = new CureTown();
            Texts.load(x, text);
            CHECK.due("end(1) behind '" + text + "'", x.end(1), false);
            CHECK.due("end(0) behind '" + text + "'", x.end(0), true);
            CHECK.due("feed behind '" + text + "'", Texts.feed(x, "cure z:;"), 20);
            CHECK.due("load() behind '" + text + "'", x.load(), text.startsWith("cure a:;") && text.length() == 8 ? 2 : 1);
            CHECK.due("load() of none", x.load(), x.look(1));
        }
    }

    private static void whatOfAFault() {
        CHECK.about("8: what 0, 1 (NONE), NONE for another what");
        CureTown x = new CureTown();
        CHECK.due("before any load, fault(0)", x.fault(0), 0);
        CHECK.none("before any load, fault(1)", x.fault(1));
        Texts.load(x, "x");
        CHECK.due("fault(0)", x.fault(0), 1);
        CHECK.due("fault(1), the first place", x.fault(1), 0);
        for (int what : new int[] {-1, 2, 3, Integer.MIN_VALUE, Integer.MAX_VALUE}) {
            CHECK.none("fault(" + what + ")", x.fault(what));
        }
    }

    private static void theLatestLoad() {
        CHECK.about("8: of the latest load()");
        CureTown x = new CureTown();
        Texts.load(x, "cure a: rest 0;");
        CHECK.due("fault(0)", x.fault(0), 3);
        CHECK.due("fault(1)", x.fault(1), 13);
        Texts.put(x, "cure a: )");
        CHECK.due("fault(0), not loaded yet", x.fault(0), 3);
        CHECK.due("fault(1), not loaded yet", x.fault(1), 13);
        x.load();
        CHECK.due("fault(0)", x.fault(0), 1);
        CHECK.due("fault(1)", x.fault(1), 8);
        x.load();
        CHECK.due("of an empty text, fault(0)", x.fault(0), 0);
        CHECK.none("of an empty text, fault(1)", x.fault(1));
        Texts.load(x, "cure a:;");
        Texts.load(x, "cure a:;");
        CHECK.due("fault(0)", x.fault(0), 2);
        CHECK.due("fault(1)", x.fault(1), 5);
        Texts.load(x, "cure b:;");
        CHECK.due("of a good text, fault(0)", x.fault(0), 0);
        CHECK.none("of a good text, fault(1)", x.fault(1));
    }
}
