import java.util.ArrayList;
import java.util.HashSet;
import java.util.List;
import java.util.Set;
import java.util.TreeMap;

/**
 * The document once more, in another form: acts as trees, a day as a list of what is taken,
 * every order tried in full. Slow and plain, to compare CureTown with.
 */
final class Model {
    static final int NONE = -1;

    record Act(String word, int first, int second, List<Act> inside) {
    }

    record Cure(String name, List<Act> acts) {
    }

    record Token(int place, String text) {
        boolean isName() {
            return text.matches("[a-z]{1,6}") && !text.matches("cure|glass|bath|rest|until|each");
        }
    }

    /** Something that was done: by whom, what, from when on, how long, where. */
    record Deed(int g, int what, int begin, int howLong, int where) {
    }

    static final class Visitor {
        int rank, cure, from, to, bound, nights, tax, glasses, done;
    }

    private static final class Fault extends Exception {
        private static final long serialVersionUID = 1L;
        final int which;
        final int place;

        Fault(int which, int place) {
            this.which = which;
            this.place = place;
        }
    }

    private final int[][] springs = {{0, 0, 48, 0}, {0, 0, 48, 0}, {0, 0, 48, 0}, {0, 0, 48, 0}};
    private final int[] bathKind = new int[6];
    private final boolean[] bathOpen = new boolean[6];
    private final int[] rates = new int[4];
    private final int[][] waters = new int[4][4];
    private final List<Visitor> visitors = new ArrayList<>();
    private List<Cure> cures = new ArrayList<>();
    private String tape = "";
    private int fault = 0;
    private int faultPlace = NONE;
    private int today = 0;
    private boolean wantsBest = false;
    private int sold = 0;
    private int poured = 0;
    // By 10 * day + spring, so that the first key is the first to be sold.
    private final TreeMap<Integer, Integer> cellar = new TreeMap<>();

    // What a day came to when it was laid out last.
    private final List<Deed> deeds = new ArrayList<>();
    private final Set<Integer> losers = new HashSet<>();
    private int clock;
    private int drunk;

    boolean spring(int s, int glasses, int a, int b, int strength) {
        boolean can = in(s, 0, 3) && in(glasses, 0, 9) && in(a, 0, 48) && in(b, 0, 48) && a <= b && in(strength, 0, 9);
        if (can) {
            springs[s] = new int[] {glasses, a, b, strength};
        }
        return can;
    }

    boolean bath(int k, int kind, boolean open) {
        boolean can = in(k, 0, 5) && in(kind, 0, 2);
        if (can) {
            bathKind[k] = kind;
            bathOpen[k] = open;
        }
        return can;
    }

    boolean rate(int rank, int v) {
        boolean can = in(rank, 0, 3) && in(v, 0, 999);
        if (can) {
            rates[rank] = v;
        }
        return can;
    }

    int feed(int... numbers) {
        if (tape.length() > 580) {
            return NONE;
        }
        for (int number : numbers) {
            for (int i = 3; i >= 0; i--) {
                tape += (char) (number >> 8 * i & 255);
            }
        }
        return tape.length();
    }

    boolean end(int n) {
        boolean can = in(n, 0, tape.length());
        if (can) {
            tape = tape.substring(0, n);
        }
        return can;
    }

    int load() {
        String text = tape;
        tape = "";
        try {
            cures = new Parser(text, cures).parse();
            fault = 0;
            faultPlace = NONE;
            return cures.size();
        } catch (Fault f) {
            fault = f.which;
            faultPlace = f.place;
            return NONE;
        }
    }

    int fault(int what) {
        return what == 0 ? fault : what == 1 ? faultPlace : NONE;
    }

    int guest(int rank, int regimen, int from, int to, int bound) {
        boolean can = in(rank, 0, 3) && in(regimen, 0, cures.size() - 1) && in(from, today, 99) && in(to, from + 1, 100)
            && in(bound, 0, 99) && visitors.size() < 8;
        if (!can) {
            return NONE;
        }
        Visitor v = new Visitor();
        v.rank = rank;
        v.cure = regimen;
        v.from = from;
        v.to = to;
        v.bound = bound;
        visitors.add(v);
        return visitors.size() - 1;
    }

    boolean leave(int g, int day) {
        if (!in(g, 0, visitors.size() - 1)) {
            return false;
        }
        Visitor v = visitors.get(g);
        if (!in(day, Math.max(today, v.from + 1), v.to)) {
            return false;
        }
        v.to = day;
        return true;
    }

    int look(int what) {
        int good = 0;
        for (int n : cellar.values()) {
            good += n;
        }
        int[] all = {today, cures.size(), visitors.size(), there(today).size(), good, sold, poured};
        return in(what, 0, 6) ? all[what] : NONE;
    }

    int plan(int day, int g, int what) {
        if (!in(day, today, 99) || !there(day).contains(g)) {
            return NONE;
        }
        layOut(byRank(day), day);
        List<Deed> own = new ArrayList<>();
        for (Deed d : deeds) {
            if (d.g == g) {
                own.add(d);
            }
        }
        if (in(what, 0, 3)) {
            return what == 0 ? own.size() : what == 1 ? endOf(g) : what == 2 ? count(g, 0) : losers.contains(g) ? 1 : 0;
        }
        for (int i = 0; i < own.size(); i++) {
            Deed d = own.get(i);
            if (what == 10 + i) {
                return d.begin;
            }
            if (what == 50 + i) {
                return d.what == 1 ? d.where : NONE;
            }
            if (what == 90 + i) {
                return d.what;
            }
        }
        return NONE;
    }

    int taken(int day, int s, int quarter) {
        if (!in(day, today, 99) || !in(s, 0, 3) || !in(quarter, 0, 47)) {
            return NONE;
        }
        layOut(byRank(day), day);
        return takenAt(s, quarter);
    }

    int best(int day, int what) {
        if (!in(day, today, 99) || there(day).size() > 6) {
            return NONE;
        }
        List<Integer> order = bestOrder(day);
        layOut(order, day);
        if (what == 0) {
            return deeds.size();
        }
        if (what == 1) {
            return sumOfEnds(order);
        }
        return in(what, 10, 9 + order.size()) ? order.get(what - 10) : NONE;
    }

    boolean keep(boolean best) {
        if (there(today).size() > 6) {
            return false;
        }
        wantsBest = best;
        return true;
    }

    int next() {
        if (today == 99) {
            return NONE;
        }
        List<Integer> order = wantsBest && there(today).size() <= 6 ? bestOrder(today) : byRank(today);
        layOut(order, today);
        for (int g : order) {
            Visitor v = visitors.get(g);
            v.nights++;
            v.tax += rates[v.rank];
            v.glasses += count(g, 0);
            v.done += count(g, 0) + count(g, 1) + count(g, 2);
        }
        for (int s = 0; s < 4; s++) {
            int given = 0;
            int left = 0;
            for (int q = springs[s][1]; q < springs[s][2]; q++) {
                given += springs[s][0];
                left += springs[s][0] - takenAt(s, q);
            }
            waters[s][0] += given;
            waters[s][1] += given - left;
            waters[s][2] += left / 10;
            waters[s][3] += left % 10;
            cellar.put(10 * today + s, left / 10);
        }
        today++;
        wantsBest = false;
        while (!cellar.isEmpty() && today - cellar.firstKey() / 10 >= 20) {
            poured += cellar.pollFirstEntry().getValue();
        }
        return today;
    }

    int water(int s, int what) {
        return in(s, 0, 3) && in(what, 0, 3) ? waters[s][what] : NONE;
    }

    int bottles(int s, int day) {
        return in(s, 0, 3) && in(day, 0, 99) ? cellar.getOrDefault(10 * day + s, 0) : NONE;
    }

    int sell(int n) {
        if (!in(n, 1, 999)) {
            return NONE;
        }
        int gone = 0;
        while (gone < n && !cellar.isEmpty()) {
            int key = cellar.firstKey();
            int there = cellar.get(key);
            if (there == 0) {
                cellar.remove(key);
            } else {
                cellar.put(key, there - 1);
                gone++;
            }
        }
        sold += gone;
        return gone;
    }

    int bill(int g, int what) {
        if (!in(g, 0, visitors.size() - 1) || !in(what, 0, 3)) {
            return NONE;
        }
        Visitor v = visitors.get(g);
        return new int[] {v.nights, v.tax, v.glasses, v.done}[what];
    }

    private static boolean in(int value, int least, int most) {
        return value >= least && value <= most;
    }

    private List<Integer> there(int day) {
        List<Integer> result = new ArrayList<>();
        for (int g = 0; g < visitors.size(); g++) {
            if (in(day, visitors.get(g).from, visitors.get(g).to - 1)) {
                result.add(g);
            }
        }
        return result;
    }

    private List<Integer> byRank(int day) {
        List<Integer> result = there(day);
        result.sort((a, b) -> visitors.get(a).rank != visitors.get(b).rank
            ? Integer.compare(visitors.get(a).rank, visitors.get(b).rank) : Integer.compare(a, b));
        return result;
    }

    private void layOut(List<Integer> order, int day) {
        deeds.clear();
        losers.clear();
        for (int g : order) {
            clock = 0;
            drunk = 0;
            Visitor v = visitors.get(g);
            if (!go(g, v, cures.get(v.cure).acts, day)) {
                losers.add(g);
            }
        }
    }

    private boolean go(int g, Visitor v, List<Act> acts, int day) {
        for (Act act : acts) {
            boolean done = switch (act.word) {
                case "glass" -> glass(g, v, act.first);
                case "bath" -> bathe(g, act.first, act.second);
                case "rest" -> doIt(g, 2, clock, act.first, NONE);
                case "until" -> wait(act.first);
                default -> day % act.first != 0 || go(g, v, act.inside, day);
            };
            if (!done) {
                return false;
            }
        }
        return true;
    }

    private boolean wait(int quarter) {
        if (quarter > clock) {
            clock = quarter;
        }
        return true;
    }

    private boolean glass(int g, Visitor v, int s) {
        if (drunk + springs[s][3] > v.bound) {
            return true;
        }
        for (int q = clock; q < 48; q++) {
            if (in(q, springs[s][1], springs[s][2] - 1) && takenAt(s, q) < springs[s][0]) {
                drunk += springs[s][3];
                return doIt(g, 0, q, 1, s);
            }
        }
        return false;
    }

    private boolean bathe(int g, int kind, int howLong) {
        for (int q = clock; q < 48; q++) {
            for (int k = 0; k < 6; k++) {
                if (bathOpen[k] && bathKind[k] == kind && isFree(k, q, howLong)) {
                    return doIt(g, 1, q, howLong, k);
                }
            }
        }
        return false;
    }

    private boolean isFree(int k, int begin, int howLong) {
        if (begin + howLong > 48) {
            return false;
        }
        for (Deed d : deeds) {
            if (d.what == 1 && d.where == k && d.begin < begin + howLong && begin < d.begin + d.howLong) {
                return false;
            }
        }
        return true;
    }

    private boolean doIt(int g, int what, int begin, int howLong, int where) {
        if (begin + howLong > 48) {
            return false;
        }
        deeds.add(new Deed(g, what, begin, howLong, where));
        clock = begin + howLong;
        return true;
    }

    private int takenAt(int s, int q) {
        int n = 0;
        for (Deed d : deeds) {
            if (d.what == 0 && d.where == s && d.begin == q) {
                n++;
            }
        }
        return n;
    }

    private int count(int g, int what) {
        int n = 0;
        for (Deed d : deeds) {
            if (d.g == g && d.what == what) {
                n++;
            }
        }
        return n;
    }

    private int endOf(int g) {
        int end = 0;
        for (Deed d : deeds) {
            if (d.g == g) {
                end = d.begin + d.howLong;
            }
        }
        return end;
    }

    private int sumOfEnds(List<Integer> order) {
        int sum = 0;
        for (int g : order) {
            sum += endOf(g);
        }
        return sum;
    }

    private List<Integer> bestOrder(int day) {
        List<List<Integer>> orders = new ArrayList<>();
        orders(new ArrayList<>(), there(day), orders);
        List<Integer> best = null;
        int mostDone = 0;
        int leastEnds = 0;
        for (List<Integer> order : orders) {
            layOut(order, day);
            int ends = sumOfEnds(order);
            if (best == null || deeds.size() > mostDone || (deeds.size() == mostDone && ends < leastEnds)) {
                best = order;
                mostDone = deeds.size();
                leastEnds = ends;
            }
        }
        return best;
    }

    private static void orders(List<Integer> head, List<Integer> rest, List<List<Integer>> all) {
        if (rest.isEmpty()) {
            all.add(new ArrayList<>(head));
        }
        for (Integer g : rest) {
            List<Integer> others = new ArrayList<>(rest);
            others.remove(g);
            head.add(g);
            orders(head, others, all);
            head.remove(head.size() - 1);
        }
    }

    /** The grammar by descent, over a list of all tokens. */
    private static final class Parser {
        private final List<Token> tokens = new ArrayList<>();
        private final List<Cure> cures;
        private int at = 0;
        private int acts;

        Parser(String text, List<Cure> there) {
            cures = new ArrayList<>(there);
            java.util.regex.Matcher m = java.util.regex.Pattern.compile("[A-Za-z]+|[0-9]+|[^ \\n]").matcher(text);
            while (m.find()) {
                tokens.add(new Token(m.start(), m.group()));
            }
            tokens.add(new Token(text.length(), ""));
        }

        List<Cure> parse() throws Fault {
            while (!here().text.isEmpty()) {
                need("cure");
                if (cures.size() == 8) {
                    throw new Fault(4, here().place);
                }
                at++;
                if (!here().isName()) {
                    throw new Fault(1, here().place);
                }
                for (Cure c : cures) {
                    if (c.name.equals(here().text)) {
                        throw new Fault(2, here().place);
                    }
                }
                String name = here().text;
                at++;
                need(":");
                at++;
                acts = 0;
                List<Act> list = acts(0);
                need(";");
                at++;
                cures.add(new Cure(name, list));
            }
            return cures;
        }

        private Token here() {
            return tokens.get(at);
        }

        private void need(String text) throws Fault {
            if (!here().text.equals(text)) {
                throw new Fault(1, here().place);
            }
        }

        private List<Act> acts(int open) throws Fault {
            List<Act> list = new ArrayList<>();
            while (here().text.matches("glass|bath|rest|until|each")) {
                if (acts == 30) {
                    throw new Fault(4, here().place);
                }
                acts++;
                String word = here().text;
                at++;
                switch (word) {
                    case "glass" -> list.add(new Act(word, number(0, 3), 0, null));
                    case "bath" -> list.add(new Act(word, number(0, 2), number(1, 16), null));
                    case "rest" -> list.add(new Act(word, number(1, 16), 0, null));
                    case "until" -> list.add(new Act(word, number(0, 47), 0, null));
                    default -> {
                        int k = number(1, 9);
                        need("(");
                        if (open == 5) {
                            throw new Fault(4, here().place);
                        }
                        at++;
                        list.add(new Act(word, k, 0, acts(open + 1)));
                        need(")");
                        at++;
                    }
                }
            }
            return list;
        }

        private int number(int least, int most) throws Fault {
            if (!here().text.matches("[0-9]{1,2}")) {
                throw new Fault(1, here().place);
            }
            int n = Integer.parseInt(here().text);
            if (n < least || n > most) {
                throw new Fault(3, here().place);
            }
            at++;
            return n;
        }
    }
}
