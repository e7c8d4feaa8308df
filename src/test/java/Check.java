/** Counts the answers that are not the ones due, and ends a test with them. */
final class Check {
    private int checked = 0;
    private int wrong = 0;

    void due(String call, int got, int want) {
        checked++;
        if (got != want) {
            wrong++;
            System.out.println(call + " answered " + got + ", due is " + want);
        }
    }

    void due(String call, boolean got, boolean want) {
        checked++;
        if (got != want) {
            wrong++;
            System.out.println(call + " answered " + got + ", due is " + want);
        }
    }

    /** The answers of plan(day, g, first), plan(day, g, first + 1) and so on. */
    void plans(CureTown x, int day, int g, int first, int... want) {
        for (int i = 0; i < want.length; i++) {
            int what = first + i;
            due("plan(" + day + ", " + g + ", " + what + ")", x.plan(day, g, what), want[i]);
        }
    }

    void finish() {
        System.out.println(checked + " answers, " + wrong + " wrong");
        if (wrong != 0 || checked == 0) {
            System.exit(1);
        }
    }
}
