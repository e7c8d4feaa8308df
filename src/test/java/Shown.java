import java.util.ArrayList;
import java.util.List;
import java.util.function.Consumer;

/**
 * What the document's calls show of an object behind a history of calls: the answers of all that
 * only look, and of what can be done from there on. Each part is asked of an object of its own
 * with the same history, since an object is good for 512 calls and some parts change it.
 */
final class Shown {
    private static final int[] WHATS_OF_AN_ACT = {10, 50, 90};

    private final Consumer<CureTown> history;
    private final List<String> answers = new ArrayList<>();

    private Shown(Consumer<CureTown> history) {
        this.history = history;
    }

    /** All that is shown. */
    static List<String> all(Consumer<CureTown> history) {
        Shown shown = new Shown(history);
        shown.fault();
        shown.tape();
        shown.tapeAsText();
        shown.allButTheTape();
        return shown.answers;
    }

    /** All that is shown but for the tape and the latest load's fault, which a load() changes in any case. */
    static List<String> butTapeAndFault(Consumer<CureTown> history) {
        Shown shown = new Shown(history);
        shown.allButTheTape();
        return shown.answers;
    }

    private void allButTheTape() {
        looks();
        watersAndBills();
        bottles(0);
        bottles(2);
        for (int ahead : new int[] {0, 1, 2, 3, 99}) {
            plans(ahead);
            takenAndBest(ahead);
        }
        for (int g = 0; g < 8; g += 2) {
            stays(g);
        }
        names();
        roomForGuests();
        leaving();
        keeping();
        daysToCome();
        selling();
    }

    private CureTown object() {
        CureTown x = new CureTown();
        history.accept(x);
        return x;
    }

    private void add(String call, int answer) {
        answers.add(call + " = " + answer);
    }

    private void add(String call, boolean answer) {
        answers.add(call + " = " + answer);
    }

    private void fault() {
        CureTown x = object();
        add("fault(0)", x.fault(0));
        add("fault(1)", x.fault(1));
    }

    /** How many bytes the tape has: feed() tells, or end() if there is no room for a feed(). */
    private void tape() {
        CureTown x = object();
        int fed = Texts.feed(x, "");
        add("feed", fed);
        for (int n = 601; fed == CureTown.NONE && n > 580; n--) {
            add("end(" + n + ")", x.end(n));
        }
    }

    private void tapeAsText() {
        CureTown x = object();
        add("the tape's load()", x.load());
        add("its fault(0)", x.fault(0));
        add("its fault(1)", x.fault(1));
        for (int regimen = 0; regimen < 8; regimen++) {
            int g = x.guest(0, regimen, 99, 100, 99);
            add("a guest of regimen " + regimen, g);
            for (int what : new int[] {0, 1, 2, 3, 10, 11, 12, 90, 91, 92}) {
                add("its plan(99, " + g + ", " + what + ")", x.plan(99, g, what));
            }
        }
    }

    private void looks() {
        CureTown x = object();
        for (int what = -1; what <= 7; what++) {
            add("look(" + what + ")", x.look(what));
        }
    }

    private void watersAndBills() {
        CureTown x = object();
        addWatersAndBills(x, "now");
    }

    private void addWatersAndBills(CureTown x, String when) {
        for (int what = 0; what < 4; what++) {
            for (int s = 0; s < 4; s++) {
                add(when + " water(" + s + ", " + what + ")", x.water(s, what));
            }
            for (int g = 0; g < 8; g++) {
                add(when + " bill(" + g + ", " + what + ")", x.bill(g, what));
            }
        }
    }

    private void bottles(int s) {
        CureTown x = object();
        for (int day = 0; day < 100; day++) {
            add("bottles(" + s + ", " + day + ")", x.bottles(s, day));
            add("bottles(" + (s + 1) + ", " + day + ")", x.bottles(s + 1, day));
        }
    }

    /** A day that is so far ahead, or the last one. */
    private static int day(CureTown x, int ahead) {
        return Math.min(99, x.look(0) + ahead);
    }

    private void plans(int ahead) {
        CureTown x = object();
        int day = day(x, ahead);
        for (int g = 0; g < 8; g++) {
            for (int what = 0; what < 4; what++) {
                add("plan(" + day + ", " + g + ", " + what + ")", x.plan(day, g, what));
            }
            for (int first : WHATS_OF_AN_ACT) {
                for (int what = first; what < first + 7; what++) {
                    add("plan(" + day + ", " + g + ", " + what + ")", x.plan(day, g, what));
                }
            }
        }
    }

    private void takenAndBest(int ahead) {
        CureTown x = object();
        int day = day(x, ahead);
        for (int s = 0; s < 4; s++) {
            for (int quarter = 0; quarter < 48; quarter++) {
                add("taken(" + day + ", " + s + ", " + quarter + ")", x.taken(day, s, quarter));
            }
        }
        for (int what : new int[] {0, 1, 10, 11, 12, 13, 14, 15, 16}) {
            add("best(" + day + ", " + what + ")", x.best(day, what));
        }
    }

    /** On which days a guest and the next one are there. */
    private void stays(int first) {
        CureTown x = object();
        for (int day = x.look(0); day < 100; day++) {
            add("plan(" + day + ", " + first + ", 0)", x.plan(day, first, 0));
            add("plan(" + day + ", " + (first + 1) + ", 0)", x.plan(day, first + 1, 0));
        }
    }

    /** Which of the names a to k can still be told; each one that can be makes a regimen. */
    private void names() {
        CureTown x = object();
        for (char name = 'a'; name <= 'k'; name++) {
            x.end(0);
            add("load() of " + name, Texts.load(x, "cure " + name + ":;"));
            add("its fault(0)", x.fault(0));
        }
    }

    private void roomForGuests() {
        CureTown x = object();
        for (int g = 0; g < 9; g++) {
            add("a guest more", x.guest(3, 0, 99, 100, 0));
        }
    }

    private void leaving() {
        CureTown x = object();
        int today = x.look(0);
        for (int g = 0; g < 8; g++) {
            for (int day = today + 9; day >= today; day--) {
                add("leave(" + g + ", " + day + ")", x.leave(g, day));
            }
        }
    }

    /** What is told for this day, which its end shows. */
    private void keeping() {
        CureTown x = object();
        add("next()", x.next());
        addWatersAndBills(x, "a day later");
        x = object();
        add("keep(true)", x.keep(true));
        add("next()", x.next());
        addWatersAndBills(x, "a day later, kept best");
        x = object();
        add("keep(false)", x.keep(false));
        add("next()", x.next());
        addWatersAndBills(x, "a day later, not kept best");
    }

    private void daysToCome() {
        CureTown x = object();
        for (int i = 0; i < 3; i++) {
            add("next()", x.next());
            addWatersAndBills(x, i + " days behind it");
        }
        for (int i = 0; i < 22; i++) {
            add("next()", x.next());
            add("look(4)", x.look(4));
            add("look(6)", x.look(6));
        }
    }

    private void selling() {
        CureTown x = object();
        int today = x.look(0);
        for (int n = 1; n <= 4; n++) {
            add("sell(" + n + ")", x.sell(n));
            for (int i = 0; i < 24; i++) {
                int day = Math.max(0, today - 1 - i / 4);
                add("bottles(" + i % 4 + ", " + day + ")", x.bottles(i % 4, day));
            }
        }
        add("sell(999)", x.sell(999));
        for (int what = 4; what <= 6; what++) {
            add("look(" + what + ")", x.look(what));
        }
    }
}
