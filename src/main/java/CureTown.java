import java.util.Arrays;

/** A cure town: its springs, baths, regimens and guests, day by day. */
public final class CureTown {
    public static final int NONE = -1;

    private static final int DAYS = 100;
    private static final int QUARTERS = 48;
    private static final int SPRINGS = 4;
    private static final int MOST_GLASSES = 9;
    private static final int MOST_STRENGTH = 9;
    private static final int BATHS = 6;
    private static final int BATH_KINDS = 3;
    private static final int RANKS = 4;
    private static final int MOST_RATE = 999;
    private static final int MOST_GUESTS = 8;
    private static final int MOST_BOUND = 99;
    private static final int MOST_FOR_BEST = 6;
    private static final int MOST_BYTES = 600;
    private static final int BYTES_A_FEED = 20;
    private static final int MOST_REGIMENS = 8;
    private static final int MOST_ACTS = 30;
    private static final int MOST_OPEN = 5;
    private static final int MOST_LETTERS = 6;
    private static final int MOST_DIGITS = 2;
    private static final int MOST_ACT_QUARTERS = 16;
    private static final int GLASSES_A_BOTTLE = 10;
    private static final int BOTTLE_DAYS = 20;
    private static final int MOST_TO_SELL = 999;

    // An act's kind is the token of its keyword; the first three are what plan() tells.
    private static final int GLASS = 0;
    private static final int BATH = 1;
    private static final int REST = 2;
    private static final int UNTIL = 3;
    private static final int EACH = 4;
    private static final int CURE = 5;
    private static final int NAME = 6;
    private static final int NUMBER = 7;
    private static final int COLON = 8;
    private static final int SEMICOLON = 9;
    private static final int OPENING = 10;
    private static final int CLOSING = 11;
    private static final int TEXT_END = 12;
    private static final int NO_TOKEN = 13;

    private static final int CANT_STAND = 1;
    private static final int NAME_TWICE = 2;
    private static final int WRONG_NUMBER = 3;
    private static final int TOO_MANY = 4;

    // What may stand first behind an act's keyword, by the act's kind.
    private static final int[] LEAST_FIRST = {0, 0, 1, 0, 1};
    private static final int[] MOST_FIRST = {SPRINGS - 1, BATH_KINDS - 1, MOST_ACT_QUARTERS, QUARTERS - 1, 9};

    private final Town town;
    private final DayPlan dayPlan;
    private final BestSearch search;
    private int today;
    private boolean bestIsTold;
    private int bottlesSold;
    private int bottlesPoured;

    public CureTown() {
        town = new Town();
        dayPlan = new DayPlan();
        search = new BestSearch();
        today = 0;
        bestIsTold = false;
        bottlesSold = 0;
        bottlesPoured = 0;
    }

    public boolean spring(int s, int glasses, int a, int b, int strength) {
        if (!isBelow(s, SPRINGS) || !isBelow(glasses, MOST_GLASSES + 1) || !isBelow(strength, MOST_STRENGTH + 1)) {
            return false;
        }
        if (a < 0 || a > b || b > QUARTERS) {
            return false;
        }
        Spring spring = town.springs[s];
        spring.glasses = glasses;
        spring.from = a;
        spring.until = b;
        spring.strength = strength;
        return true;
    }

    public boolean bath(int k, int kind, boolean open) {
        if (!isBelow(k, BATHS) || !isBelow(kind, BATH_KINDS)) {
            return false;
        }
        town.baths[k].kind = kind;
        town.baths[k].isOpen = open;
        return true;
    }

    public boolean rate(int rank, int v) {
        if (!isBelow(rank, RANKS) || !isBelow(v, MOST_RATE + 1)) {
            return false;
        }
        town.rates[rank] = v;
        return true;
    }

    public int feed(int a, int b, int c, int d, int e) {
        Tape tape = town.book.tape;
        if (tape.length + BYTES_A_FEED > MOST_BYTES) {
            return NONE;
        }
        tape.add(a);
        tape.add(b);
        tape.add(c);
        tape.add(d);
        tape.add(e);
        return tape.length;
    }

    public boolean end(int n) {
        Tape tape = town.book.tape;
        if (n < 0 || n > tape.length) {
            return false;
        }
        tape.length = n;
        return true;
    }

    public int load() {
        Book book = town.book;
        book.readTape();
        return book.fault == 0 ? book.count : NONE;
    }

    public int fault(int what) {
        switch (what) {
            case 0:
                return town.book.fault;
            case 1:
                return town.book.faultPlace;
            default:
                return NONE;
        }
    }

    public int guest(int rank, int regimen, int from, int to, int bound) {
        if (!isBelow(rank, RANKS) || !isBelow(regimen, town.book.count) || !isBelow(bound, MOST_BOUND + 1)) {
            return NONE;
        }
        if (from < today || to <= from || to > DAYS || town.guestCount >= MOST_GUESTS) {
            return NONE;
        }
        int g = town.guestCount;
        town.guests[g].come(rank, regimen, from, to, bound);
        town.guestCount++;
        return g;
    }

    public boolean leave(int g, int day) {
        if (!isBelow(g, town.guestCount)) {
            return false;
        }
        Guest guest = town.guests[g];
        if (day < today || day <= guest.from || day > guest.to) {
            return false;
        }
        guest.to = day;
        return true;
    }

    public int look(int what) {
        switch (what) {
            case 0:
                return today;
            case 1:
                return town.book.count;
            case 2:
                return town.guestCount;
            case 3:
                return town.countThere(today);
            case 4:
                return town.countBottles();
            case 5:
                return bottlesSold;
            case 6:
                return bottlesPoured;
            default:
                return NONE;
        }
    }

    public int plan(int day, int g, int what) {
        if (!isToCome(day) || !town.isThere(g, day)) {
            return NONE;
        }
        dayPlan.layOutByRank(town, day);
        return dayPlan.rows[g].tell(what);
    }

    public int taken(int day, int s, int quarter) {
        if (!isToCome(day) || !isBelow(s, SPRINGS) || !isBelow(quarter, QUARTERS)) {
            return NONE;
        }
        dayPlan.layOutByRank(town, day);
        return dayPlan.glassesTaken[s][quarter];
    }

    public int best(int day, int what) {
        if (!isToCome(day) || town.countThere(day) > MOST_FOR_BEST) {
            return NONE;
        }
        search.run(town, dayPlan, day);
        return search.tell(what);
    }

    public boolean keep(boolean best) {
        if (town.countThere(today) > MOST_FOR_BEST) {
            return false;
        }
        bestIsTold = best;
        return true;
    }

    public int next() {
        if (today >= DAYS - 1) {
            return NONE;
        }
        if (bestIsTold && town.countThere(today) <= MOST_FOR_BEST) {
            search.run(town, dayPlan, today);
            search.layOutBest(town, dayPlan, today);
        } else {
            dayPlan.layOutByRank(town, today);
        }
        countGuests();
        countWater();
        today++;
        bestIsTold = false;
        pourOut();
        return today;
    }

    public int water(int s, int what) {
        if (!isBelow(s, SPRINGS)) {
            return NONE;
        }
        Spring spring = town.springs[s];
        switch (what) {
            case 0:
                return spring.allGiven;
            case 1:
                return spring.allTaken;
            case 2:
                return spring.allFilled;
            case 3:
                return spring.allRunOff;
            default:
                return NONE;
        }
    }

    public int bottles(int s, int day) {
        if (!isBelow(s, SPRINGS) || !isBelow(day, DAYS)) {
            return NONE;
        }
        return town.springs[s].bottlesOf[day];
    }

    public int sell(int n) {
        if (n < 1 || n > MOST_TO_SELL) {
            return NONE;
        }
        int wanted = n;
        for (int day = 0; day < DAYS; day++) {
            for (int s = 0; s < SPRINGS; s++) {
                int[] bottlesOf = town.springs[s].bottlesOf;
                int part = Math.min(wanted, bottlesOf[day]);
                bottlesOf[day] -= part;
                wanted -= part;
            }
        }
        bottlesSold += n - wanted;
        return n - wanted;
    }

    public int bill(int g, int what) {
        if (!isBelow(g, town.guestCount)) {
            return NONE;
        }
        Guest guest = town.guests[g];
        switch (what) {
            case 0:
                return guest.nights;
            case 1:
                return guest.tax;
            case 2:
                return guest.glasses;
            case 3:
                return guest.done;
            default:
                return NONE;
        }
    }

    private static boolean isBelow(int value, int bound) {
        return value >= 0 && value < bound;
    }

    private boolean isToCome(int day) {
        return day >= today && day < DAYS;
    }

    private void countGuests() {
        for (int g = 0; g < town.guestCount; g++) {
            if (town.isThere(g, today)) {
                Guest guest = town.guests[g];
                guest.nights++;
                guest.tax += town.rates[guest.rank];
                guest.glasses += dayPlan.rows[g].glasses;
                guest.done += dayPlan.rows[g].done;
            }
        }
    }

    private void countWater() {
        for (int s = 0; s < SPRINGS; s++) {
            town.springs[s].closeDay(today, dayPlan.countTaken(s));
        }
    }

    private void pourOut() {
        int filledOn = today - BOTTLE_DAYS;
        if (filledOn < 0) {
            return;
        }
        for (int s = 0; s < SPRINGS; s++) {
            bottlesPoured += town.springs[s].bottlesOf[filledOn];
            town.springs[s].bottlesOf[filledOn] = 0;
        }
    }

    /** All that a day is laid out from. */
    private static final class Town {
        final Spring[] springs = new Spring[SPRINGS];
        final Bath[] baths = new Bath[BATHS];
        final Guest[] guests = new Guest[MOST_GUESTS];
        final int[] rates = new int[RANKS];
        final Book book = new Book();
        int guestCount = 0;

        Town() {
            for (int s = 0; s < SPRINGS; s++) {
                springs[s] = new Spring();
            }
            for (int k = 0; k < BATHS; k++) {
                baths[k] = new Bath();
            }
            for (int g = 0; g < MOST_GUESTS; g++) {
                guests[g] = new Guest();
            }
        }

        boolean isThere(int g, int day) {
            return isBelow(g, guestCount) && guests[g].from <= day && day < guests[g].to;
        }

        int countThere(int day) {
            int count = 0;
            for (int g = 0; g < guestCount; g++) {
                if (isThere(g, day)) {
                    count++;
                }
            }
            return count;
        }

        int countBottles() {
            int count = 0;
            for (int s = 0; s < SPRINGS; s++) {
                for (int day = 0; day < DAYS; day++) {
                    count += springs[s].bottlesOf[day];
                }
            }
            return count;
        }
    }

    /** A spring, and what became of its water. */
    private static final class Spring {
        int glasses = 0;
        int from = 0;
        int until = QUARTERS;
        int strength = 0;
        int allGiven = 0;
        int allTaken = 0;
        int allFilled = 0;
        int allRunOff = 0;
        final int[] bottlesOf = new int[DAYS];

        void closeDay(int day, int glassesTaken) {
            int given = glasses * (until - from);
            int left = given - glassesTaken;
            int filled = left / GLASSES_A_BOTTLE;
            allGiven += given;
            allTaken += glassesTaken;
            allFilled += filled;
            allRunOff += left % GLASSES_A_BOTTLE;
            bottlesOf[day] = filled;
        }
    }

    private static final class Bath {
        int kind = 0;
        boolean isOpen = false;
    }

    /** A guest, and what the days that ended have added up to. */
    private static final class Guest {
        int rank = 0;
        int regimen = 0;
        int from = 0;
        int to = 0;
        int bound = 0;
        int nights = 0;
        int tax = 0;
        int glasses = 0;
        int done = 0;

        void come(int itsRank, int itsRegimen, int fromDay, int toDay, int itsBound) {
            rank = itsRank;
            regimen = itsRegimen;
            from = fromDay;
            to = toDay;
            bound = itsBound;
        }
    }

    /** A regimen's acts in the order of the text, those in brackets behind their "each". */
    private static final class Regimen {
        int name = 0;
        int count = 0;
        final int[] kinds = new int[MOST_ACTS];
        final int[] firsts = new int[MOST_ACTS];
        // A bath's quarters; of an "each" the place behind its closing bracket.
        final int[] seconds = new int[MOST_ACTS];

        void begin(int itsName) {
            name = itsName;
            count = 0;
        }

        void add(int kind) {
            if (count < MOST_ACTS) {
                kinds[count] = kind;
                count++;
            }
        }
    }

    /** The bytes that were fed, and the token that was read of them last. */
    private static final class Tape {
        final byte[] bytes = new byte[MOST_BYTES];
        int length = 0;
        int token = TEXT_END;
        int place = 0;
        int behind = 0;
        int number = 0;
        int name = 0;

        void add(int fourBytes) {
            for (int shift = 24; shift >= 0; shift -= 8) {
                if (length < MOST_BYTES) {
                    bytes[length] = (byte) (fourBytes >>> shift);
                    length++;
                }
            }
        }

        void rewind() {
            behind = 0;
        }

        void readToken() {
            place = behind;
            while (place < length && isBlank(bytes[place])) {
                place++;
            }
            behind = place;
            if (place >= length) {
                token = TEXT_END;
            } else if (isLetter(bytes[place])) {
                readLetters();
            } else if (isDigit(bytes[place])) {
                readDigits();
            } else {
                token = signToken(bytes[place]);
                behind++;
            }
        }

        private void readLetters() {
            boolean allSmall = true;
            name = 0;
            while (behind < length && isLetter(bytes[behind])) {
                allSmall = allSmall && bytes[behind] >= 'a';
                // 27 to each letter: no two names of up to six letters share a number, and all fit an int.
                name = name * 27 + (bytes[behind] - 'a' + 1);
                behind++;
            }
            token = allSmall && behind - place <= MOST_LETTERS ? wordToken() : NO_TOKEN;
        }

        private void readDigits() {
            number = 0;
            while (behind < length && isDigit(bytes[behind])) {
                number = number * 10 + (bytes[behind] - '0');
                behind++;
            }
            token = behind - place <= MOST_DIGITS ? NUMBER : NO_TOKEN;
        }

        private int wordToken() {
            if (isWord("glass")) {
                return GLASS;
            }
            if (isWord("bath")) {
                return BATH;
            }
            if (isWord("rest")) {
                return REST;
            }
            if (isWord("until")) {
                return UNTIL;
            }
            if (isWord("each")) {
                return EACH;
            }
            return isWord("cure") ? CURE : NAME;
        }

        private boolean isWord(String word) {
            if (behind - place != word.length()) {
                return false;
            }
            for (int i = 0; i < word.length(); i++) {
                if (bytes[place + i] != word.charAt(i)) {
                    return false;
                }
            }
            return true;
        }

        private static int signToken(int sign) {
            switch (sign) {
                case ':':
                    return COLON;
                case ';':
                    return SEMICOLON;
                case '(':
                    return OPENING;
                case ')':
                    return CLOSING;
                default:
                    return NO_TOKEN;
            }
        }

        private static boolean isBlank(int sign) {
            return sign == ' ' || sign == '\n';
        }

        private static boolean isLetter(int sign) {
            return (sign >= 'a' && sign <= 'z') || (sign >= 'A' && sign <= 'Z');
        }

        private static boolean isDigit(int sign) {
            return sign >= '0' && sign <= '9';
        }
    }

    /** The regimens, and the reading of a text token by token. */
    private static final class Book {
        private static final int WANTS_CURE = 0;
        private static final int WANTS_NAME = 1;
        private static final int WANTS_COLON = 2;
        private static final int WANTS_ACT = 3;
        private static final int WANTS_FIRST = 4;
        private static final int WANTS_SECOND = 5;
        private static final int WANTS_BRACKET = 6;

        final Tape tape = new Tape();
        final Regimen[] regimens = new Regimen[MOST_REGIMENS];
        int count = 0;
        int fault = 0;
        int faultPlace = NONE;
        // While a text is read: the regimens with those that it told up to now.
        private int told = 0;
        private int wants = WANTS_CURE;
        private int openCount = 0;
        private final int[] openActs = new int[MOST_OPEN];
        private Regimen current;

        Book() {
            for (int i = 0; i < MOST_REGIMENS; i++) {
                regimens[i] = new Regimen();
            }
            current = regimens[0];
        }

        void readTape() {
            fault = 0;
            faultPlace = NONE;
            told = count;
            wants = WANTS_CURE;
            tape.rewind();
            boolean goesOn = true;
            for (int i = 0; i <= MOST_BYTES && goesOn; i++) {
                tape.readToken();
                take(tape.token);
                goesOn = fault == 0 && tape.token != TEXT_END;
            }
            // Up to here what the text told stands behind the regimens that count, so a fault leaves no trace.
            if (fault == 0) {
                count = told;
            }
            tape.length = 0;
        }

        private void take(int token) {
            switch (wants) {
                case WANTS_CURE:
                    takeCure(token);
                    break;
                case WANTS_NAME:
                    takeName(token);
                    break;
                case WANTS_COLON:
                    takeColon(token);
                    break;
                case WANTS_ACT:
                    takeAct(token);
                    break;
                case WANTS_FIRST:
                    takeFirst(token);
                    break;
                case WANTS_SECOND:
                    takeSecond(token);
                    break;
                default:
                    takeBracket(token);
                    break;
            }
        }

        private void fail(int which) {
            fault = which;
            faultPlace = tape.place;
        }

        private void takeCure(int token) {
            if (token == TEXT_END) {
                return;
            }
            if (token != CURE) {
                fail(CANT_STAND);
            } else if (told >= MOST_REGIMENS) {
                fail(TOO_MANY);
            } else {
                current = regimens[told];
                wants = WANTS_NAME;
            }
        }

        private void takeName(int token) {
            if (token != NAME) {
                fail(CANT_STAND);
            } else if (isTold(tape.name)) {
                fail(NAME_TWICE);
            } else {
                current.begin(tape.name);
                wants = WANTS_COLON;
            }
        }

        private boolean isTold(int name) {
            for (int i = 0; i < told && i < MOST_REGIMENS; i++) {
                if (regimens[i].name == name) {
                    return true;
                }
            }
            return false;
        }

        private void takeColon(int token) {
            if (token != COLON) {
                fail(CANT_STAND);
            } else {
                openCount = 0;
                wants = WANTS_ACT;
            }
        }

        private void takeAct(int token) {
            if (token >= GLASS && token <= EACH) {
                beginAct(token);
            } else if (token == CLOSING && openCount > 0) {
                openCount--;
                current.seconds[openActs[openCount]] = current.count;
            } else if (token == SEMICOLON && openCount == 0) {
                told++;
                wants = WANTS_CURE;
            } else {
                fail(CANT_STAND);
            }
        }

        private void beginAct(int kind) {
            if (current.count >= MOST_ACTS) {
                fail(TOO_MANY);
            } else {
                current.add(kind);
                wants = WANTS_FIRST;
            }
        }

        private void takeFirst(int token) {
            int act = current.count - 1;
            int kind = current.kinds[act];
            if (!canStand(token, LEAST_FIRST[kind], MOST_FIRST[kind])) {
                return;
            }
            current.firsts[act] = tape.number;
            switch (kind) {
                case BATH:
                    wants = WANTS_SECOND;
                    break;
                case EACH:
                    wants = WANTS_BRACKET;
                    break;
                default:
                    wants = WANTS_ACT;
                    break;
            }
        }

        private void takeSecond(int token) {
            if (canStand(token, 1, MOST_ACT_QUARTERS)) {
                current.seconds[current.count - 1] = tape.number;
                wants = WANTS_ACT;
            }
        }

        /** Whether the token is a number from least to most; its fault is told if not. */
        private boolean canStand(int token, int least, int most) {
            if (token != NUMBER) {
                fail(CANT_STAND);
            } else if (tape.number < least || tape.number > most) {
                fail(WRONG_NUMBER);
            }
            return fault == 0;
        }

        private void takeBracket(int token) {
            if (token != OPENING) {
                fail(CANT_STAND);
            } else if (openCount >= MOST_OPEN) {
                fail(TOO_MANY);
            } else {
                openActs[openCount] = current.count - 1;
                openCount++;
                wants = WANTS_ACT;
            }
        }
    }

    /** What one guest does on the day that is laid out. */
    private static final class GuestDay {
        int now = 0;
        int strength = 0;
        int done = 0;
        int over = 0;
        int glasses = 0;
        boolean isLost = false;
        final int[] begins = new int[MOST_ACTS];
        final int[] quarters = new int[MOST_ACTS];
        final int[] kinds = new int[MOST_ACTS];
        // The spring of a glass, the bath of a bath.
        final int[] places = new int[MOST_ACTS];

        void clear() {
            now = 0;
            strength = 0;
            done = 0;
            over = 0;
            glasses = 0;
            isLost = false;
        }

        void note(int kind, int begin, int howLong, int where) {
            if (done < MOST_ACTS) {
                kinds[done] = kind;
                begins[done] = begin;
                quarters[done] = howLong;
                places[done] = where;
                done++;
                over = begin + howLong;
                now = over;
            }
        }

        int tell(int what) {
            switch (what) {
                case 0:
                    return done;
                case 1:
                    return over;
                case 2:
                    return glasses;
                case 3:
                    return isLost ? 1 : 0;
                default:
                    return tellAct(what);
            }
        }

        private int tellAct(int what) {
            if (what >= 90 && what - 90 < done) {
                return kinds[what - 90];
            }
            if (what >= 50 && what - 50 < done) {
                return kinds[what - 50] == BATH ? places[what - 50] : NONE;
            }
            return what >= 10 && what - 10 < done ? begins[what - 10] : NONE;
        }
    }

    /** A day laid out: who has taken what, guest behind guest. */
    private static final class DayPlan {
        final GuestDay[] rows = new GuestDay[MOST_GUESTS];
        final int[][] glassesTaken = new int[SPRINGS][QUARTERS];
        // A bit for each quarter at which a bath is let.
        private final long[] bathsLet = new long[BATHS];

        DayPlan() {
            for (int g = 0; g < MOST_GUESTS; g++) {
                rows[g] = new GuestDay();
            }
        }

        void layOutByRank(Town town, int day) {
            clear();
            for (int rank = 0; rank < RANKS; rank++) {
                for (int g = 0; g < town.guestCount; g++) {
                    if (town.guests[g].rank == rank && town.isThere(g, day)) {
                        addGuest(town, g, day);
                    }
                }
            }
        }

        void clear() {
            for (int s = 0; s < SPRINGS; s++) {
                Arrays.fill(glassesTaken[s], 0);
            }
            Arrays.fill(bathsLet, 0L);
        }

        void addGuest(Town town, int g, int day) {
            Guest guest = town.guests[g];
            Regimen regimen = town.book.regimens[guest.regimen];
            GuestDay row = rows[g];
            row.clear();
            int skippedUntil = 0;
            for (int i = 0; i < regimen.count && !row.isLost; i++) {
                if (i < skippedUntil) {
                    continue;
                }
                if (regimen.kinds[i] == EACH) {
                    skippedUntil = isMultiple(day, regimen.firsts[i]) ? i + 1 : regimen.seconds[i];
                } else {
                    addAct(town, row, guest.bound, regimen, i);
                }
            }
        }

        /** Gives back what the guest who was added last has taken. */
        void removeGuest(int g) {
            GuestDay row = rows[g];
            for (int i = 0; i < row.done; i++) {
                if (row.kinds[i] == GLASS) {
                    glassesTaken[row.places[i]][row.begins[i]]--;
                } else if (row.kinds[i] == BATH) {
                    bathsLet[row.places[i]] &= ~bits(row.begins[i], row.quarters[i]);
                }
            }
        }

        int countTaken(int s) {
            int count = 0;
            for (int q = 0; q < QUARTERS; q++) {
                count += glassesTaken[s][q];
            }
            return count;
        }

        private static boolean isMultiple(int day, int divisor) {
            return divisor > 0 && day % divisor == 0;
        }

        private static long bits(int begin, int howMany) {
            return ((1L << howMany) - 1) << begin;
        }

        private void addAct(Town town, GuestDay row, int bound, Regimen regimen, int act) {
            int first = regimen.firsts[act];
            switch (regimen.kinds[act]) {
                case GLASS:
                    addGlass(town.springs[first], row, bound, first);
                    break;
                case BATH:
                    addBath(town.baths, row, first, regimen.seconds[act]);
                    break;
                case REST:
                    addRest(row, first);
                    break;
                default:
                    row.now = Math.max(row.now, first);
                    break;
            }
        }

        private void addGlass(Spring spring, GuestDay row, int bound, int s) {
            if (row.strength + spring.strength > bound) {
                return;
            }
            int q = Math.max(row.now, spring.from);
            while (q < spring.until && glassesTaken[s][q] >= spring.glasses) {
                q++;
            }
            if (q >= spring.until) {
                row.isLost = true;
                return;
            }
            glassesTaken[s][q]++;
            row.strength += spring.strength;
            row.glasses++;
            row.note(GLASS, q, 1, s);
        }

        private void addBath(Bath[] baths, GuestDay row, int kind, int howLong) {
            for (int q = row.now; q + howLong <= QUARTERS; q++) {
                int k = findFree(baths, kind, bits(q, howLong));
                if (k != NONE) {
                    bathsLet[k] |= bits(q, howLong);
                    row.note(BATH, q, howLong, k);
                    return;
                }
            }
            row.isLost = true;
        }

        private int findFree(Bath[] baths, int kind, long wanted) {
            for (int k = 0; k < BATHS; k++) {
                if (baths[k].isOpen && baths[k].kind == kind && (bathsLet[k] & wanted) == 0) {
                    return k;
                }
            }
            return NONE;
        }

        private static void addRest(GuestDay row, int howLong) {
            if (row.now + howLong > QUARTERS) {
                row.isLost = true;
            } else {
                row.note(REST, row.now, howLong, NONE);
            }
        }
    }

    /** Goes through the orders of a day's guests, the first by guests first. */
    private static final class BestSearch {
        private final int[] guests = new int[MOST_FOR_BEST];
        private final int[] doneAlone = new int[MOST_FOR_BEST];
        private final int[] overAlone = new int[MOST_FOR_BEST];
        private final boolean[] isPlaced = new boolean[MOST_FOR_BEST];
        private final int[] order = new int[MOST_FOR_BEST];
        private final int[] bestOrder = new int[MOST_FOR_BEST];
        private int count = 0;
        private int bestDone = NONE;
        private int bestOver = 0;
        // Of those who are placed what they have, of the others what they would have alone.
        private int hopedDone = 0;
        private int hopedOver = 0;

        void run(Town town, DayPlan plan, int day) {
            bestDone = NONE;
            bestOver = 0;
            hopedDone = 0;
            hopedOver = 0;
            plan.clear();
            listGuests(town, plan, day);
            tryOrders(this, town, plan, day, 0);
        }

        void layOutBest(Town town, DayPlan plan, int day) {
            plan.clear();
            for (int i = 0; i < count; i++) {
                plan.addGuest(town, bestOrder[i], day);
            }
        }

        int tell(int what) {
            if (what == 0) {
                return bestDone;
            }
            if (what == 1) {
                return bestOver;
            }
            return what >= 10 && what - 10 < count ? bestOrder[what - 10] : NONE;
        }

        private void listGuests(Town town, DayPlan plan, int day) {
            count = 0;
            for (int g = 0; g < town.guestCount && count < MOST_FOR_BEST; g++) {
                if (town.isThere(g, day)) {
                    plan.addGuest(town, g, day);
                    guests[count] = g;
                    doneAlone[count] = plan.rows[g].done;
                    overAlone[count] = plan.rows[g].over;
                    isPlaced[count] = false;
                    hopedDone += doneAlone[count];
                    hopedOver += overAlone[count];
                    count++;
                    plan.removeGuest(g);
                }
            }
        }

        private static void tryOrders(BestSearch search, Town town, DayPlan plan, int day, int depth) {
            if (depth > MOST_FOR_BEST || search.isHopeless()) {
                return;
            }
            if (depth == search.count) {
                search.keepOrder();
                return;
            }
            for (int i = 0; i < search.count; i++) {
                if (!search.isPlaced[i]) {
                    plan.addGuest(town, search.guests[i], day);
                    search.place(plan, i, depth);
                    tryOrders(search, town, plan, day, depth + 1);
                    search.unplace(plan, i);
                    plan.removeGuest(search.guests[i]);
                }
            }
        }

        /**
         * Others can only make a guest later, so nobody has more done than alone, nor as much
         * done and over sooner: what is hoped for is never less good than what comes of it.
         */
        private boolean isHopeless() {
            return hopedDone < bestDone || (hopedDone == bestDone && hopedOver >= bestOver);
        }

        private void place(DayPlan plan, int i, int depth) {
            GuestDay row = plan.rows[guests[i]];
            isPlaced[i] = true;
            order[depth] = guests[i];
            hopedDone += row.done - doneAlone[i];
            hopedOver += row.over - overAlone[i];
        }

        private void unplace(DayPlan plan, int i) {
            GuestDay row = plan.rows[guests[i]];
            isPlaced[i] = false;
            hopedDone -= row.done - doneAlone[i];
            hopedOver -= row.over - overAlone[i];
        }

        private void keepOrder() {
            bestDone = hopedDone;
            bestOver = hopedOver;
            System.arraycopy(order, 0, bestOrder, 0, count);
        }
    }
}
