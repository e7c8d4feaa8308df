/** Puts a text on the tape as a caller has to: twenty bytes a call, then cut to its length. */
final class Texts {
    private Texts() {
    }

    static void put(CureTown x, String text) {
        for (int from = 0; from < text.length(); from += 20) {
            feed(x, text.substring(from));
        }
        x.end(text.length());
    }

    /** The first twenty bytes of a text, with blanks behind it if it has not so many. */
    static int feed(CureTown x, String text) {
        return x.feed(word(text, 0), word(text, 4), word(text, 8), word(text, 12), word(text, 16));
    }

    static int load(CureTown x, String text) {
        put(x, text);
        return x.load();
    }

    /** A new town that has the regimens of a text; a text with a fault would make the test worthless. */
    static CureTown town(String text) {
        CureTown x = new CureTown();
        if (load(x, text) == CureTown.NONE) {
            throw new IllegalArgumentException("fault " + x.fault(0) + " at " + x.fault(1) + " of '" + text + "'");
        }
        return x;
    }

    static void days(CureTown x, int n) {
        for (int i = 0; i < n; i++) {
            x.next();
        }
    }

    static int word(String text, int from) {
        int word = 0;
        for (int i = from; i < from + 4; i++) {
            word = word << 8 | (i < text.length() ? text.charAt(i) & 255 : ' ');
        }
        return word;
    }

    static String times(String part, int n) {
        return part.repeat(n);
    }
}
