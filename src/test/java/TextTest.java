/** Promises 7 and 8: load, fault. */
public final class TextTest {
    private static final Check CHECK = new Check();

    public static void main(String[] args) {
        goodTexts();
        tokens();
        whatWasCutOffIsNotRead();
        aFaultInBracketsIsForgotten();
        whatCantStand();
        names();
        numbers();
        tooMany();
        aFaultChangesNothing();
        theLatestLoad();
        CHECK.finish();
    }

    private static void good(String text, int regimens) {
        CureTown x = new CureTown();
        CHECK.due("load of '" + text + "'", Texts.load(x, text), regimens);
        CHECK.due("fault(0) of '" + text + "'", x.fault(0), 0);
        CHECK.due("fault(1) of '" + text + "'", x.fault(1), CureTown.NONE);
        CHECK.due("look(1) of '" + text + "'", x.look(1), regimens);
    }

    private static void bad(String text, int fault, int place) {
        CureTown x = new CureTown();
        CHECK.due("load of '" + text + "'", Texts.load(x, text), CureTown.NONE);
        CHECK.due("fault(0) of '" + text + "'", x.fault(0), fault);
        CHECK.due("fault(1) of '" + text + "'", x.fault(1), place);
        CHECK.due("look(1) of '" + text + "'", x.look(1), 0);
        CHECK.due("empty then", x.end(1), false);
    }

    private static void goodTexts() {
        good("", 0);
        good(" \n ", 0);
        good("cure a:;", 1);
        good("cure a: glass 3 bath 2 16 rest 16 until 47 each 9 () ;", 1);
        good("cure a: glass 0 bath 0 1 rest 1 until 0 each 1 (rest 1 each 2 (glass 1) bath 1 1);", 1);
        good("cure abcdef:;cure f:;", 2);
        good("cure a:;cure b:;cure c:;cure d:;cure e:;cure f:;cure g:;cure h:;", 8);
        good("cure a:" + Texts.times("rest 1 ", 30) + ";cure b:" + Texts.times("rest 1 ", 30) + ";", 2);
        good("cure a:" + Texts.times("each 1(", 5) + Texts.times(")", 5) + Texts.times("each 1(", 5) + Texts.times(")", 5) + ";", 1);
        good("cure a: each 1 (" + Texts.times("each 1()", 29) + ");", 1);
    }

    private static void tokens() {
        good("cure\na:rest1glass0bath0 1;", 1);
        good("cure a:each1(rest01)until00;", 1);
        bad("curea:;", 1, 0);
        bad("cure a:\trest 1;", 1, 7);
        bad("cure a:\rrest 1;", 1, 7);
        bad("cure a: rest 001;", 1, 13);
        bad("cure a: rest 1234567890123;", 1, 13);
        bad("cure a: Rest 1;", 1, 8);
        bad("cure a: resT 1;", 1, 8);
        bad("cure a: rest -1;", 1, 13);
        bad("cure a: bath 12;", 3, 13);
        bad("cure a: bath 1;", 1, 14);
        bad("cure a: each 1 [];", 1, 15);
        bad("cure a\u00e9:;", 1, 6);
        bad("CURE a:;", 1, 0);
        bad("cure aaaaaaabcd:;", 1, 5);
        bad("cure abcdefg:;", 1, 5);
        bad("cure A:;", 1, 5);
        bad("cure aB:;", 1, 5);
        bad("cure Ab:;", 1, 5);
        bad("cure a: restA 1;", 1, 8);
        bad("cure a: restZ 1;", 1, 8);
        bad("cure a: rest@ 1;", 1, 12);
        bad("cure a: rest[ 1;", 1, 12);
        bad("cure a: rest` 1;", 1, 12);
        bad("cure a: rest{ 1;", 1, 12);
        bad("cure a: rest /;", 1, 13);
        bad("cure a: rest 1:;", 1, 14);
        good("cure lure:;cure pest:;cure math:;cure class:;cure intil:;cure reach:;", 6);
        good("cure curd:;cure resu:;cure bati:;cure glast:;cure untik:;cure eaci:;", 6);
    }

    private static void whatWasCutOffIsNotRead() {
        CureTown x = new CureTown();
        String[] texts = {"cure a: rest 17;", "cure abc", "cure a: glass 0"};
        int[] lengths = {14, 6, 13};
        for (int i = 0; i < texts.length; i++) {
            Texts.put(x, texts[i]);
            x.end(lengths[i]);
            CHECK.due("load of '" + texts[i] + "' cut", x.load(), CureTown.NONE);
            CHECK.due("fault(0)", x.fault(0), 1);
            CHECK.due("fault(1)", x.fault(1), lengths[i]);
        }
    }

    private static void aFaultInBracketsIsForgotten() {
        CureTown x = new CureTown();
        Texts.load(x, "cure a: each 1 (each 1 (rest 0));");
        CHECK.due("load", Texts.load(x, "cure a: rest 1 );"), CureTown.NONE);
        CHECK.due("fault(1)", x.fault(1), 15);
        Texts.load(x, "cure a: each 1 (each 1 (rest 0));");
        CHECK.due("load", Texts.load(x, "cure a: rest 1 ;"), 1);
    }

    private static void whatCantStand() {
        bad("a", 1, 0);
        bad(";", 1, 0);
        bad("  glass 0", 1, 2);
        bad("cure", 1, 4);
        bad("cure   ", 1, 7);
        bad("cure 1:;", 1, 5);
        bad("cure glass:;", 1, 5);
        bad("cure cure:;", 1, 5);
        bad("cure a;", 1, 6);
        bad("cure a", 1, 6);
        bad("cure a a:;", 1, 7);
        bad("cure a 1;", 1, 7);
        bad("cure a: rest :;", 1, 13);
        bad("cure a: each 1 );", 1, 15);
        bad("cure a: each 1 ((;", 1, 16);
        bad("cure a:", 1, 7);
        bad("cure a: \n", 1, 9);
        bad("cure a: 1;", 1, 8);
        bad("cure a: a;", 1, 8);
        bad("cure a: cure b:;", 1, 8);
        bad("cure a: (rest 1);", 1, 8);
        bad("cure a: );", 1, 8);
        bad("cure a: rest;", 1, 12);
        bad("cure a: rest rest 1;", 1, 13);
        bad("cure a: rest 1 1;", 1, 15);
        bad("cure a: bath 0 rest 1;", 1, 15);
        bad("cure a: bath 0", 1, 14);
        bad("cure a: each (rest 1);", 1, 13);
        bad("cure a: each 1 rest 1;", 1, 15);
        bad("cure a: each 1", 1, 14);
        bad("cure a: each 1 (rest 1;", 1, 22);
        bad("cure a: each 1 (rest 1", 1, 22);
        bad("cure a: each 1 (rest 1));", 1, 23);
        bad("cure a:; ;", 1, 9);
        bad("cure a:; rest 1;", 1, 9);
    }

    private static void names() {
        bad("cure a:;cure a:;", 2, 13);
        bad("cure abcdef:;cure abcdeg:;cure abcdef:;", 2, 31);
        good("cure a:;cure aa:;cure z:;cure zz:;cure az:;cure za:;", 6);
        CureTown x = new CureTown();
        CHECK.due("the first", Texts.load(x, "cure one:;cure two:;"), 2);
        CHECK.due("again", Texts.load(x, "cure six:; cure two:;"), CureTown.NONE);
        CHECK.due("fault(0)", x.fault(0), 2);
        CHECK.due("fault(1)", x.fault(1), 16);
        CHECK.due("six did not come", Texts.load(x, "cure six:;"), 3);
    }

    private static void numbers() {
        bad("cure a: glass 4;", 3, 14);
        bad("cure a: glass 99;", 3, 14);
        bad("cure a: bath 3 1;", 3, 13);
        bad("cure a: bath 2 0;", 3, 15);
        bad("cure a: bath 2 17;", 3, 15);
        bad("cure a: rest 0;", 3, 13);
        bad("cure a: rest 17;", 3, 13);
        bad("cure a: until 48;", 3, 14);
        bad("cure a: each 0 ();", 3, 13);
        bad("cure a: each 10 ();", 3, 13);
        bad("cure a: each 10 rest 0;", 3, 13);
    }

    private static void tooMany() {
        String eight = "cure a:;cure b:;cure c:;cure d:;cure e:;cure f:;cure g:;cure h:;";
        bad(eight + " cure i:;", 4, 65);
        bad(eight + "cure a:;", 4, 64);
        bad("cure a:" + Texts.times("rest 1 ", 30) + "rest 99;", 4, 217);
        bad("cure a:" + Texts.times("each 1()", 30) + "glass 0;", 4, 247);
        bad("cure a:" + Texts.times("each 1 (", 6), 4, 54);
        bad("cure a:" + Texts.times("each 1 (", 5) + ") each 1 () each 1 (each 1 (", 4, 7 + 40 + 27);
        CureTown x = new CureTown();
        CHECK.due("eight", Texts.load(x, eight), 8);
        CHECK.due("none more", Texts.load(x, ""), 8);
        CHECK.due("a ninth", Texts.load(x, "cure"), CureTown.NONE);
        CHECK.due("fault(0)", x.fault(0), 4);
        CHECK.due("fault(1)", x.fault(1), 0);
        CHECK.due("eight still", x.look(1), 8);
    }

    private static void aFaultChangesNothing() {
        CureTown x = new CureTown();
        Texts.load(x, "cure a: rest 1 rest 2;");
        x.guest(0, 0, 0, 9, 0);
        Texts.load(x, "cure b: rest 3; cure c: rest 4; x");
        CHECK.due("regimens", x.look(1), 1);
        CHECK.due("no regimen 1", x.guest(0, 1, 0, 9, 0), CureTown.NONE);
        CHECK.plans(x, 0, 0, 0, 2, 3);
        CHECK.due("load", Texts.load(x, "cure c: rest 5;"), 2);
        CHECK.due("regimen 1", x.guest(0, 1, 0, 9, 0), 1);
        CHECK.plans(x, 0, 1, 0, 1, 5);
        CHECK.plans(x, 0, 0, 0, 2, 3);
    }

    private static void theLatestLoad() {
        CureTown x = new CureTown();
        Texts.load(x, "x");
        CHECK.due("fault(0)", x.fault(0), 1);
        Texts.put(x, "cure a:;");
        CHECK.due("fault(0) still", x.fault(0), 1);
        CHECK.due("fault(1) still", x.fault(1), 0);
        CHECK.due("fault(2)", x.fault(2), CureTown.NONE);
        CHECK.due("fault(-1)", x.fault(-1), CureTown.NONE);
        x.load();
        CHECK.due("fault(0) then", x.fault(0), 0);
        CHECK.due("fault(1) then", x.fault(1), CureTown.NONE);
    }
}
