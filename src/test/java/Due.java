/** Counts the answers that are not as due, prints them, and ends a test. */
final class Due {
    private int wrong;
    private int asked;

    void is(String call, long got, long want) {
        asked++;
        if (got == want) return;
        wrong++;
        System.out.println(call + " answered " + got + ", due is " + want);
    }

    /** what: 0 nothing is thrown, 1 IllegalArgumentException, 2 IllegalStateException. */
    void element(WhoBacks w, int d, int i, int what, long want) {
        int thrown = 0;
        long got = 0;
        try {
            got = w.element(d, i);
        } catch (IllegalArgumentException e) {
            thrown = 1;
        } catch (IllegalStateException e) {
            thrown = 2;
        }
        is("element(" + d + ", " + i + ") throws", thrown, what);
        if (thrown == 0 && what == 0) is("element(" + d + ", " + i + ")", got, want);
    }

    void end(String test) {
        System.out.println(test + ": " + (asked - wrong) + " answers as due, " + wrong + " not");
        if (wrong != 0) System.exit(1);
    }

    static int text(WhoBacks w, int d, String text) {
        w.row(d, 0, text.length());
        for (int i = 0; i < text.length(); i++) w.put(d, i, text.charAt(i));
        return text.length();
    }

    /** A text onto shelf 0, read as a road. */
    static int road(WhoBacks w, String text) {
        text(w, 0, text);
        return w.road(0);
    }

    static WhoBacks of(String text) {
        WhoBacks w = new WhoBacks();
        int answer = road(w, text);
        if (answer < 1) throw new IllegalStateException("a test's road is refused: " + text + " " + answer);
        return w;
    }

    static void ints(WhoBacks w, int d, int... values) {
        w.row(d, 2, values.length);
        for (int i = 0; i < values.length; i++) w.put(d, i, values[i]);
    }
}
