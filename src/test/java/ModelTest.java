import java.util.ArrayList;
import java.util.List;
import java.util.Random;

/** Runs of up to 512 calls, made from fixed seeds, on CureTown and on Model: all answers must agree. */
public final class ModelTest {
    private static final int[] ODD = {-1, 4, 6, 8, 9, 48, 49, 100, 101, 1000, Integer.MAX_VALUE, Integer.MIN_VALUE};

    // A text told in 35 calls may still come behind them, and an object is good for 512.
    private static final int MOST_CALLS = 470;

    private final Random random;
    private final CureTown town = new CureTown();
    private final Model model = new Model();
    private final List<String> calls = new ArrayList<>();
    private boolean agrees = true;

    private ModelTest(long seed) {
        random = new Random(seed);
    }

    public static void main(String[] args) {
        int runs = args.length > 0 ? Integer.parseInt(args[0]) : 400;
        long first = args.length > 1 ? Long.parseLong(args[1]) : 1;
        int wrong = 0;
        long answers = 0;
        for (long seed = first; seed < first + runs && wrong < 3; seed++) {
            ModelTest test = new ModelTest(seed);
            test.run();
            answers += test.calls.size();
            if (!test.agrees) {
                wrong++;
                System.out.println("seed " + seed + ":");
                for (String call : test.calls) {
                    System.out.println("  " + call);
                }
            }
        }
        System.out.println(runs + " runs, " + answers + " answers, " + wrong + " runs wrong");
        if (wrong != 0 || answers == 0) {
            System.exit(1);
        }
    }

    private void run() {
        int style = random.nextInt(6);
        if (style == 4) {
            crowd();
            return;
        }
        if (style == 5) {
            lateDays();
        }
        if (style > 0) {
            setUp();
        }
        // Texts are fed in many calls, so the count of calls is looked at, not that of rounds.
        while (calls.size() < MOST_CALLS && agrees) {
            if (style == 3 && random.nextInt(3) == 0) {
                tellText();
            } else {
                anyCall();
            }
        }
    }

    /** The run begins shortly ahead of the last day. */
    private void lateDays() {
        int days = 88 + upTo(11);
        for (int i = 0; i < days; i++) {
            same("next()", town.next(), model.next());
        }
    }

    private void same(String call, int got, int want) {
        calls.add(call + " = " + got + (got == want ? "" : ", Model says " + want));
        agrees = agrees && got == want;
    }

    private void same(String call, boolean got, boolean want) {
        same(call, got ? 1 : 0, want ? 1 : 0);
    }

    private int upTo(int most) {
        return random.nextInt(most + 1);
    }

    /** Mostly a number that can be, now and then one that can't. */
    private int about(int most) {
        return random.nextInt(25) == 0 ? ODD[random.nextInt(ODD.length)] : upTo(most);
    }

    private int dayAbout() {
        int today = model.look(0);
        int kind = random.nextInt(20);
        return kind == 0 ? about(99) : kind == 1 ? today - 1 : kind < 12 ? today : today + upTo(4);
    }

    private void setUp() {
        feedText(cures(1 + upTo(4), false));
        callLoad();
        for (int s = 0; s < 4; s++) {
            callSpring(s);
        }
        for (int k = 0; k < 6; k++) {
            callBath(k);
        }
        int guests = upTo(8);
        for (int g = 0; g < guests; g++) {
            callGuest();
        }
    }

    /** Five or six guests who are in each other's way, so that the order tells. */
    private void crowd() {
        feedText(cures(3 + upTo(3), false));
        callLoad();
        for (int s = 0; s < 4; s++) {
            int from = upTo(20);
            int strength = upTo(4);
            same("spring", town.spring(s, 1, from, from + 16, strength), model.spring(s, 1, from, from + 16, strength));
        }
        for (int k = 0; k < 3; k++) {
            same("bath", town.bath(5 - k, k, true), model.bath(5 - k, k, true));
        }
        int guests = 5 + upTo(1);
        for (int g = 0; g < guests; g++) {
            int rank = upTo(3);
            int regimen = upTo(Math.max(0, model.look(1) - 1));
            int bound = upTo(20);
            same("guest", town.guest(rank, regimen, 0, 100, bound), model.guest(rank, regimen, 0, 100, bound));
        }
        for (int round = 0; round < 2; round++) {
            int day = model.look(0) + upTo(6);
            for (int what = 0; what <= 16; what++) {
                same("best(" + day + ", " + what + ")", town.best(day, what), model.best(day, what));
            }
            same("keep(true)", town.keep(true), model.keep(true));
            same("next()", town.next(), model.next());
            for (int g = 0; g < guests; g++) {
                same("bill(" + g + ", 2)", town.bill(g, 2), model.bill(g, 2));
                same("bill(" + g + ", 3)", town.bill(g, 3), model.bill(g, 3));
            }
            for (int s = 0; s < 4; s++) {
                same("water(" + s + ", 3)", town.water(s, 3), model.water(s, 3));
            }
        }
    }

    private void tellText() {
        String text = cures(upTo(3), true);
        if (random.nextInt(3) == 0) {
            text = spoil(text);
        }
        feedText(text);
        callLoad();
        same("fault(0)", town.fault(0), model.fault(0));
        same("fault(1)", town.fault(1), model.fault(1));
        same("look(1)", town.look(1), model.look(1));
    }

    private void feedText(String text) {
        String shown = text.length() > 600 ? text.substring(0, 600) : text;
        for (int i = 0; i < shown.length(); i += 20) {
            int[] w = new int[5];
            for (int k = 0; k < 5; k++) {
                w[k] = Texts.word(shown, i + 4 * k);
            }
            same("feed", town.feed(w[0], w[1], w[2], w[3], w[4]), model.feed(w));
        }
        same("end(" + shown.length() + ") of '" + shown + "'", town.end(shown.length()), model.end(shown.length()));
    }

    private String cures(int n, boolean oddly) {
        StringBuilder text = new StringBuilder();
        for (int i = 0; i < n; i++) {
            String name = oddly && random.nextInt(4) == 0 ? "a" : name();
            text.append("cure").append(blank(true)).append(name).append(blank(false)).append(':');
            acts(text, oddly && random.nextInt(4) == 0 ? 12 : 7, 0, oddly);
            text.append(blank(false)).append(';').append(blank(false));
        }
        return text.toString();
    }

    private String name() {
        StringBuilder name = new StringBuilder();
        int length = 1 + upTo(5);
        for (int i = 0; i < length; i++) {
            name.append((char) ('a' + upTo(25)));
        }
        return name.toString();
    }

    private String blank(boolean must) {
        String[] blanks = {" ", "\n", "  "};
        return must || random.nextInt(4) == 0 ? blanks[random.nextInt(3)] : "";
    }

    private void acts(StringBuilder text, int most, int depth, boolean oddly) {
        int n = upTo(most);
        for (int i = 0; i < n; i++) {
            text.append(blank(true));
            switch (random.nextInt(depth < (oddly ? 7 : 3) ? 9 : 7)) {
                case 0, 1, 2 -> text.append("glass").append(number(0, 3, oddly));
                case 3, 4 -> text.append("bath").append(number(0, 2, oddly)).append(number(1, oddly ? 16 : 9, oddly));
                case 5 -> text.append("rest").append(number(1, oddly ? 16 : 7, oddly));
                case 6 -> text.append("until").append(number(0, oddly ? 47 : 30, oddly));
                default -> {
                    text.append("each").append(number(1, oddly ? 9 : 3, oddly)).append(blank(false)).append('(');
                    acts(text, oddly ? 3 : 4, depth + 1, oddly);
                    text.append(blank(false)).append(')');
                }
            }
        }
    }

    private String number(int least, int most, boolean oddly) {
        int n = oddly && random.nextInt(80) == 0 ? upTo(120) : least + upTo(most - least);
        return blank(true) + (n < 10 && random.nextInt(5) == 0 ? "0" : "") + n;
    }

    private String spoil(String text) {
        StringBuilder spoilt = new StringBuilder(text);
        int at = upTo(text.length());
        String[] parts = {";", ":", "(", ")", " ", "1", "a", "A", "cure", "rest 1", "\u00ff", "\t", "each 2 (", "glass", "aaaaaaa"};
        if (at < text.length() && random.nextBoolean()) {
            spoilt.delete(at, Math.min(text.length(), at + 1 + upTo(3)));
        } else {
            spoilt.insert(at, parts[random.nextInt(parts.length)]);
        }
        return random.nextInt(4) == 0 ? spoilt.substring(0, upTo(spoilt.length())) : spoilt.toString();
    }

    private void callLoad() {
        same("load()", town.load(), model.load());
    }

    private void callSpring(int s) {
        int glasses = random.nextBoolean() ? upTo(3) : about(9);
        int a = random.nextInt(3) == 0 ? about(48) : upTo(12);
        int b = random.nextInt(3) == 0 ? about(48) : 24 + upTo(24);
        int strength = about(9);
        same("spring(" + s + ", " + glasses + ", " + a + ", " + b + ", " + strength + ")",
            town.spring(s, glasses, a, b, strength), model.spring(s, glasses, a, b, strength));
    }

    private void callBath(int k) {
        int kind = about(2);
        boolean open = random.nextInt(3) > 0;
        same("bath(" + k + ", " + kind + ", " + open + ")", town.bath(k, kind, open), model.bath(k, kind, open));
    }

    private void callGuest() {
        int rank = about(3);
        int regimen = random.nextInt(10) == 0 ? about(8) : upTo(Math.max(0, model.look(1) - 1));
        int from = random.nextInt(12) == 0 ? dayAbout() : model.look(0) + upTo(2);
        int to = random.nextInt(12) == 0 ? about(101) : from + 1 + upTo(20);
        int bound = random.nextBoolean() ? about(99) : upTo(25);
        same("guest(" + rank + ", " + regimen + ", " + from + ", " + to + ", " + bound + ")",
            town.guest(rank, regimen, from, to, bound), model.guest(rank, regimen, from, to, bound));
    }

    private void anyCall() {
        switch (random.nextInt(32)) {
            case 0 -> callSpring(about(3));
            case 1 -> callBath(about(5));
            case 2 -> {
                int rank = about(3);
                int v = about(999);
                same("rate(" + rank + ", " + v + ")", town.rate(rank, v), model.rate(rank, v));
            }
            case 3 -> {
                int n = about(30);
                same("end(" + n + ")", town.end(n), model.end(n));
            }
            case 4 -> callGuest();
            case 5 -> {
                int g = about(7);
                int day = random.nextBoolean() ? dayAbout() : model.look(0) + upTo(20);
                if (random.nextInt(3) == 0) {
                    same("leave(" + g + ", " + day + ")", town.leave(g, day), model.leave(g, day));
                }
            }
            case 6, 7 -> {
                int what = about(7);
                same("look(" + what + ")", town.look(what), model.look(what));
            }
            case 8, 9, 10, 11, 12, 13 -> callPlan();
            case 14, 15 -> {
                int day = dayAbout();
                int s = about(3);
                int q = random.nextBoolean() ? about(47) : upTo(12);
                same("taken(" + day + ", " + s + ", " + q + ")", town.taken(day, s, q), model.taken(day, s, q));
            }
            case 16 -> callBest();
            case 17, 18 -> {
                boolean best = random.nextInt(3) > 0;
                same("keep(" + best + ")", town.keep(best), model.keep(best));
            }
            case 19, 20, 21 -> same("next()", town.next(), model.next());
            case 22, 23, 24 -> {
                int s = about(3);
                int what = about(4);
                same("water(" + s + ", " + what + ")", town.water(s, what), model.water(s, what));
            }
            case 25, 26 -> {
                int s = about(3);
                int day = random.nextInt(3) == 0 ? about(99) : Math.max(0, model.look(0) - upTo(22));
                same("bottles(" + s + ", " + day + ")", town.bottles(s, day), model.bottles(s, day));
            }
            case 27, 28 -> {
                int n = random.nextInt(4) == 0 ? about(999) : upTo(40);
                same("sell(" + n + ")", town.sell(n), model.sell(n));
            }
            default -> {
                int g = about(7);
                int what = about(4);
                same("bill(" + g + ", " + what + ")", town.bill(g, what), model.bill(g, what));
            }
        }
    }

    private void callPlan() {
        int day = dayAbout();
        int g = about(7);
        int[] firsts = {0, 10, 50, 90};
        int what = random.nextInt(20) == 0 ? about(130) : firsts[random.nextInt(4)] + upTo(6);
        same("plan(" + day + ", " + g + ", " + what + ")", town.plan(day, g, what), model.plan(day, g, what));
    }

    private void callBest() {
        int day = dayAbout();
        for (int what = 0; what <= 1; what++) {
            same("best(" + day + ", " + what + ")", town.best(day, what), model.best(day, what));
        }
        int i = random.nextInt(8) == 0 ? about(30) : 10 + upTo(6);
        same("best(" + day + ", " + i + ")", town.best(day, i), model.best(day, i));
        int second = 10 + upTo(5);
        same("best(" + day + ", " + second + ")", town.best(day, second), model.best(day, second));
    }
}
