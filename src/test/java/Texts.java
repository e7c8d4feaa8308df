/** Puts a text on the tape as a caller has to: twenty bytes a call, then cut to its length. */
final class Texts {
    private Texts() {
    }

    static void put(CureTown x, String text) {
        for (int from = 0; from < text.length(); from += 20) {
            x.feed(word(text, from), word(text, from + 4), word(text, from + 8), word(text, from + 12), word(text, from + 16));
        }
        x.end(text.length());
    }

    static int load(CureTown x, String text) {
        put(x, text);
        return x.load();
    }

    static int word(String text, int from) {
        int word = 0;
        for (int i = from; i < from + 4; i++) {
            word = word << 8 | (i < text.length() ? text.charAt(i) & 255 : ' ');
        }
        return word;
    }

    static String times(String part, int n) {
        return part.repeat(n);
    }
}
