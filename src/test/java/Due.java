/** Counts the answers that are not as due, prints them, and ends a test. */
final class Due {
    private int wrong;
    private int asked;
    private String sentence = "";

    /** The words of the document that the answers asked for next are about: AllSentences looks for these in it. */
    void about(String words) { sentence = words; }

    void is(String call, long got, long want) {
        asked++;
        if (got == want) return;
        wrong++;
        System.out.println(call + " answered " + got + ", due is " + want);
        if (!sentence.isEmpty()) System.out.println("    by: " + sentence);
    }

    /** what: 0 nothing is thrown, 1 IllegalArgumentException, 2 IllegalStateException. */
    void element(WhoBacks w, int d, int i, int what, long want) {
        int thrown = 0;
        long got = 0;
        try {
            got = w.element(d, i);
        } catch (IllegalArgumentException e) {
            thrown = 1;
        } catch (IllegalStateException e) {
            thrown = 2;
        }
        is("element(" + d + ", " + i + ") throws", thrown, what);
        if (thrown == 0 && what == 0) is("element(" + d + ", " + i + ")", got, want);
    }

    /** A road runs to its end: the minute then, what was backed, waited, done, whether it stands, how often two met. */
    void ends(String text, int... want) {
        WhoBacks w = of(text);
        is(text + " go(200)", w.go(200), want[0]);
        for (int what = 0; what <= 5; what++) is(text + " state(" + what + ")", w.state(what), want[what]);
        is(text + " go(1) behind its end", w.go(1), -3);
        is(text + " the minute stays", w.state(0), want[0]);
    }

    /** The spots of a cart behind 1, 2, .. minutes. */
    void goes(String text, int cart, int... spots) {
        WhoBacks w = of(text);
        for (int i = 0; i < spots.length; i++) {
            w.go(1);
            is(text + " cart " + cart + " behind minute " + (i + 1), w.where(cart, 0), spots[i]);
        }
    }

    /** The spots of all carts, first to last. */
    void at(String when, WhoBacks w, int... spots) {
        for (int k = 0; k < spots.length; k++) is(when + ": where(" + k + ", 0)", w.where(k, 0), spots[k]);
    }

    /** Which carts are backing: a digit each, 1 or 0, cart 0 first. */
    void backing(String when, WhoBacks w, String digits) {
        for (int k = 0; k < digits.length(); k++) is(when + ": where(" + k + ", 1)", w.where(k, 1), digits.charAt(k) - '0');
    }

    void end(String test) {
        System.out.println(test + ": " + (asked - wrong) + " answers as due, " + wrong + " not");
        if (wrong != 0) System.exit(1);
    }

    static int text(WhoBacks w, int d, String text) {
        w.row(d, 0, text.length());
        for (int i = 0; i < text.length(); i++) w.put(d, i, text.charAt(i));
        return text.length();
    }

    /** A text onto shelf 0, read as a road. */
    static int road(WhoBacks w, String text) {
        text(w, 0, text);
        return w.road(0);
    }

    static WhoBacks of(String text) {
        WhoBacks w = new WhoBacks();
        int answer = road(w, text);
        if (answer < 1) throw new IllegalStateException("a test's road is refused: " + text + " " + answer);
        return w;
    }

    /** A road some minutes on. */
    static WhoBacks behind(String text, int minutes) {
        WhoBacks w = of(text);
        w.go(minutes);
        return w;
    }

    static void ints(WhoBacks w, int d, int... values) { fill(w, d, 2, values); }

    static void bytes(WhoBacks w, int d, int... values) { fill(w, d, 0, values); }

    private static void fill(WhoBacks w, int d, int sort, int[] values) {
        w.row(d, sort, values.length);
        for (int i = 0; i < values.length; i++) w.put(d, i, values[i]);
    }

    /** A rule by way of shelf 7 to a village. */
    static void rule(WhoBacks w, int village, int kind, int figure) {
        w.keep(7, 1, kind, figure);
        w.rule(7, village);
    }
}
