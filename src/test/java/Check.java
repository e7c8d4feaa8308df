/** Counts the answers that are not the ones due, and ends a test with them. */
final class Check {
    private int checked = 0;
    private int wrong = 0;
    private int sentences = 0;
    private String sentence = "";

    /** The document's sentence that the answers behind it belong to. */
    void about(String words) {
        sentences++;
        sentence = "[" + words + "] ";
    }

    void due(String call, int got, int want) {
        checked++;
        if (got != want) {
            wrong++;
            System.out.println(sentence + call + " answered " + got + ", due is " + want);
        }
    }

    void due(String call, boolean got, boolean want) {
        checked++;
        if (got != want) {
            wrong++;
            System.out.println(sentence + call + " answered " + got + ", due is " + want);
        }
    }

    void none(String call, int got) {
        due(call, got, CureTown.NONE);
    }

    /** The answers of plan(day, g, first), plan(day, g, first + 1) and so on. */
    void plans(CureTown x, int day, int g, int first, int... want) {
        for (int i = 0; i < want.length; i++) {
            int what = first + i;
            due("plan(" + day + ", " + g + ", " + what + ")", x.plan(day, g, what), want[i]);
        }
    }

    void waters(CureTown x, int s, int... want) {
        for (int what = 0; what < want.length; what++) {
            due("water(" + s + ", " + what + ")", x.water(s, what), want[what]);
        }
    }

    void bills(CureTown x, int g, int... want) {
        for (int what = 0; what < want.length; what++) {
            due("bill(" + g + ", " + what + ")", x.bill(g, what), want[what]);
        }
    }

    void looks(CureTown x, int... want) {
        for (int what = 0; what < want.length; what++) {
            due("look(" + what + ")", x.look(what), want[what]);
        }
    }

    void finish() {
        String told = sentences == 0 ? "" : sentences + " sentences, ";
        System.out.println(told + checked + " answers, " + wrong + " wrong");
        if (wrong != 0 || checked == 0) {
            System.exit(1);
        }
    }
}
