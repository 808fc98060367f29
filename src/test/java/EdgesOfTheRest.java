/** Rows at one place, the image, shelves, and promises 27 to 38, sentence by sentence: the edges that each names. */
public final class EdgesOfTheRest {
    private static final Due due = new Due();
    private static final int[] FAR = { Integer.MIN_VALUE, -1, Integer.MAX_VALUE };

    public static void main(String[] args) {
        rows();
        roomOfRows();
        callsOfRows();
        image();
        imageWithinMinutes();
        count();
        shelves();
        keep();
        row();
        lowestBits();
        putAndElement();
        copy();
        words();
        toss();
        the512thCall();
        due.end("EdgesOfTheRest");
    }

    // ---- rows at one place

    private static void rows() {
        due.about("ROWS: a CARTS stand at one side of a PLACE, b at the other (0 .. 3 each), all want to the other side; ROOM aside r (0 .. 3); so many may stand at the one side, at the other (0 .. 6 each, not fewer than stand there at first). A MOVE: the CART nearest to the PLACE of one side goes to the other side (nearest there), or aside; one that is aside (any) goes to a side (nearest). LEAST MOVES till all have what they want and none is aside; -4.");
        WhoBacks w = new WhoBacks();
        due.is("none", w.rows(0, 0, 0, 0, 0), 0);
        due.is("none, room for many", w.rows(0, 0, 3, 6, 6), 0);
        for (int a = 1; a <= 3; a++) {
            due.is(a + " across", w.rows(a, 0, 0, a, a), a);
            due.is(a + " across the other way", w.rows(0, a, 0, a, a), a);
            due.is(a + " across, with room aside", w.rows(a, 0, 3, 6, 6), a);
            // those from one side go aside, the others across, then those that are aside: twice a and b
            due.is(a + " each, all of one side aside", w.rows(a, a, a, a, a), 3 * a);
            due.is(a + " each, more room", w.rows(a, a, 3, 6, 6), 3 * a);
            due.is(a + " against none aside", w.rows(a, a, 0, 6, 6), -4);
        }
        // the fewer go aside
        due.is("3 and 1", w.rows(3, 1, 1, 3, 3), 1 + 3 + 1);
        due.is("1 and 3", w.rows(1, 3, 1, 3, 3), 1 + 3 + 1);
        due.is("3 and 2", w.rows(3, 2, 2, 3, 3), 2 + 3 + 2);
        // the nearest goes, not one behind it: with one aside three each take their turns
        due.is("2 each, one aside", w.rows(2, 2, 1, 3, 3), 10);
        due.is("3 each, one aside", w.rows(3, 3, 1, 6, 6), 21);
        // any that is aside goes: of two of either way the one wanted
        due.is("none has room to pass", w.rows(2, 2, 1, 2, 2), -4);
    }

    private static void roomOfRows() {
        due.about("ROWS: all that stand at a side count, and any may move; fewer than stand there: -1.");
        WhoBacks w = new WhoBacks();
        // those that came over count at their side, too
        due.is("two across to room for one", w.rows(2, 0, 3, 2, 1), -4);
        due.is("two across to room for two", w.rows(2, 0, 0, 2, 2), 2);
        due.is("three across to room for two", w.rows(3, 0, 3, 3, 2), -4);
        due.is("two the other way to room for one", w.rows(0, 2, 3, 1, 2), -4);
        due.is("two the other way to room for two", w.rows(0, 2, 0, 2, 2), 2);
        due.is("three the other way to room for two", w.rows(0, 3, 3, 2, 3), -4);
        due.is("one each, sides of one: by way of aside", w.rows(1, 1, 1, 1, 1), 3);
        // one that is where it wants to be moves again: only so one aside is enough for two each
        due.is("two each, one aside", w.rows(2, 2, 1, 3, 3), 10);
        for (int a = 0; a <= 3; a++) {
            for (int one = 0; one <= 6; one++) {
                boolean fewer = one < a;
                due.is("rows(" + a + ", 0, 0, " + one + ", 6)", w.rows(a, 0, 0, one, 6), fewer ? -1 : a);
                due.is("rows(0, " + a + ", 0, 6, " + one + ")", w.rows(0, a, 0, 6, one), fewer ? -1 : a);
                due.is("aside(" + a + ", 0, " + one + ", 6)", w.aside(a, 0, one, 6), fewer ? -1 : 0);
                due.is("aside(0, " + a + ", 6, " + one + ")", w.aside(0, a, 6, one), fewer ? -1 : 0);
            }
        }
    }

    private static void callsOfRows() {
        due.about("`int rows(int a, int b, int r, int one, int other)`: LEAST MOVES; -4. -1.");
        WhoBacks w = Due.of("p2;u0 0;");
        for (int wrong : new int[] { Integer.MIN_VALUE, -1, 4, Integer.MAX_VALUE }) {
            due.is("a " + wrong, w.rows(wrong, 0, 0, 6, 6), -1);
            due.is("b " + wrong, w.rows(0, wrong, 0, 6, 6), -1);
            due.is("r " + wrong, w.rows(0, 0, wrong, 6, 6), -1);
            due.is("aside: a " + wrong, w.aside(wrong, 0, 6, 6), -1);
            due.is("aside: b " + wrong, w.aside(0, wrong, 6, 6), -1);
        }
        for (int wrong : new int[] { Integer.MIN_VALUE, -1, 7, Integer.MAX_VALUE }) {
            due.is("one " + wrong, w.rows(0, 0, 0, wrong, 6), -1);
            due.is("other " + wrong, w.rows(0, 0, 0, 6, wrong), -1);
            due.is("aside: one " + wrong, w.aside(0, 0, wrong, 6), -1);
            due.is("aside: other " + wrong, w.aside(0, 0, 6, wrong), -1);
        }
        due.is("as great as can be", w.rows(3, 3, 3, 6, 6), 9);
        due.is("as little as can be", w.rows(0, 0, 0, 0, 0), 0);
        due.about("`int aside(int a, int b, int one, int other)`: The least r (0 .. 3) with which ROWS can; -4. -1.");
        due.is("0", w.aside(0, 3, 3, 3), 0);
        due.is("none at all", w.aside(0, 0, 0, 0), 0);
        due.is("1", w.aside(1, 1, 1, 1), 1);
        due.is("2", w.aside(2, 2, 2, 2), 2);
        due.is("3", w.aside(3, 3, 3, 3), 3);
        due.is("never", w.aside(1, 0, 1, 0), -4);
        due.is("never: the room at the side is too little", w.aside(3, 0, 3, 2), -4);
        for (int a = 0; a <= 3; a++) {
            for (int b = 0; b <= 3; b++) {
                int least = w.aside(a, b, 6, 6);
                due.is("it can with " + least, w.rows(a, b, least, 6, 6) >= 0 ? 1 : 0, 1);
                if (least > 0) due.is("it can't with less", w.rows(a, b, least - 1, 6, 6), -4);
            }
        }
    }

    // ---- the image

    private static void image() {
        due.about("`int restore()`: THE IMAGE is RESTORED: the MINUTE. -3: there is none.");
        WhoBacks w = new WhoBacks();
        due.is("there is none", w.restore(), -3);
        due.about("`int image()`: THE IMAGE is taken: the MINUTE.");
        due.is("of nothing", w.image(), 0);
        due.about("THE IMAGE: all that there is, but SHELVES (and THE IMAGE); RESTORED all is as it was then.");
        Due.road(w, "p3h1;p4h2;p2;r1 2;r2 3;v1 1;v2 2;x0 10;x1 25;x2 39;u0 1lw3;d0 2w4;u9 3;");
        due.is("restored to nothing", w.restore(), 0);
        for (int what = 0; what <= 5; what++) due.is("count(" + what + ")", w.count(what), 0);
        for (int v = 0; v < 3; v++) due.is("village " + v, w.village(v, 0) * 10 + w.village(v, 1), 0);
        due.is("the road again", w.road(0), 13);
        w.go(5);
        due.is("taken at minute 5", w.image(), 5);
        String then = told(w);
        w.go(7);
        for (int k = 0; k < 3; k++) w.backs(k, 0);
        Due.text(w, 1, "x0 77;x1 00;x2 11;v0 2;v1 2;v2 0;");
        w.road(1);
        w.anew();
        Due.text(w, 1, "p9;u1 1;d1 1;u1 1;d1 1;r1 0;r2 0;r3 4;");
        w.road(1);
        w.go(20);
        due.is("restored", w.restore(), 5);
        due.is("all is as it was then: " + told(w), told(w).equals(then) ? 1 : 0, 1);
        due.is("and again", w.restore(), 5);
        due.is("all is as it was then: " + told(w), told(w).equals(then) ? 1 : 0, 1);
        due.is("it ends as it would have", w.go(200), Due.of("p3h1;p4h2;p2;r1 2;r2 3;v1 1;v2 2;x0 10;x1 25;x2 39;u0 1lw3;d0 2w4;u9 3;").go(200));
        w.anew();
        due.is("another image", w.image(), 0);
        w.go(3);
        due.is("in the first one's place", w.restore(), 0);
        due.about("when THE IMAGE is RESTORED, SHELVES stay as they are.");
        w = Due.of("p2;u0 0;");
        w.keep(3, 1, 4, 4);
        Due.ints(w, 4, 7, 8);
        w.image();
        w.keep(2, 1, 3, 5);
        w.keep(3, 0, 0, 0);
        w.put(4, 1, 9);
        w.row(5, 1, 2);
        w.restore();
        due.is("a rule that came since", w.words(2), 7);
        due.is("one that went since", w.words(3), -11);
        due.element(w, 4, 0, 0, 7);
        due.element(w, 4, 1, 0, 9);
        due.element(w, 5, 1, 0, 0);
        due.element(w, 5, 2, 2, 0);
    }

    /** All that is told but shelves, of up to four pieces and seven carts. */
    private static String told(WhoBacks w) {
        StringBuilder s = new StringBuilder();
        for (int i = 0; i <= 5; i++) s.append(w.count(i)).append(' ').append(w.state(i)).append(' ');
        for (int k = 0; k < 4; k++) for (int what = 0; what < 4; what++) s.append(w.piece(k, what)).append(' ');
        for (int k = 0; k < 5; k++) s.append(w.room(k)).append(' ');
        for (int v = 0; v < 3; v++) s.append(w.village(v, 0)).append(w.village(v, 1)).append(' ');
        for (int k = 0; k < 4; k++) for (int what = 0; what < 5; what++) s.append(w.cart(k, what)).append('/').append(w.where(k, what)).append(' ');
        return s.toString();
    }

    /** An image taken in any minute of a run that backs, waits, is slow and stands: what comes behind it is the same. */
    private static void imageWithinMinutes() {
        due.about("RESTORED all is as it was then.");
        // what is left of steps, who is BACKING and has stepped back since, minutes without a step
        String[] texts = { "p4h1;x0 20;u0 3l;d0 3;", "p6;d0 2;u0 3;u0 1;", "p3;p3;x0 10;u0 2;d2 1w9;", "p3;u0 0;d0 0;u30 0;", "p3;p5;r1 3;d1 2;u0 1;u0 0;u0 1;u0 1;u0 1;" };
        for (String text : texts) {
            for (int minute = 0; minute <= 14; minute++) {
                WhoBacks w = Due.of(text);
                for (int i = 0; i < minute; i++) w.go(1);
                due.is(text + " image()", w.image(), minute);
                int spot = spotNext(w);
                WhoBacks other = Due.of(text);
                other.go(minute + 3);
                w.go(3);
                String then = told(w);
                due.is(text + " as the other", then.equals(told(other)) ? 1 : 0, 1);
                w.anew();
                w.go(2);
                due.is(text + " restore()", w.restore(), minute);
                due.is(text + " judged alike", spotNext(w), spot);
                w.go(3);
                due.is(text + " restored at " + minute, then.equals(told(w)) ? 1 : 0, 1);
            }
        }
        // the minutes without a step are kept, too
        WhoBacks w = Due.behind("p3;u0 0;d0 0;", 60);
        w.image();
        w.anew();
        w.go(1);
        w.restore();
        due.is("it doesn't stand yet", w.state(4), 0);
        due.is("one minute more", w.go(5), 61);
        due.is("it stands", w.state(4), 1);
        // and an image keeps its own
        w = Due.of("p3;u0 0;d0 0;");
        w.image();
        w.go(60);
        w.restore();
        due.is("60 minutes anew", w.go(200), 61);
    }

    /** The spots of cart 1 in the next three minutes, by judge: found by trying them. */
    private static int spotNext(WhoBacks w) {
        int found = 0;
        Due.ints(w, 3, Integer.MIN_VALUE, Integer.MIN_VALUE, Integer.MIN_VALUE);
        for (int i = 0; i < 3; i++) {
            int spot = -3;
            w.put(3, i, spot);
            while (spot < 12 && w.judge(1, 3) != -4) w.put(3, i, ++spot);
            found = found * 100 + spot + 10;
        }
        return found;
    }

    private static void count() {
        due.about("`int count(int what)`: 0 PIECES, 1 CARTS, 2 END, 3 all ROOM of PLACES between, 4 CARTS ON the ROAD, 5 all WORTH; -1 for others.");
        WhoBacks w = Due.of("p2;p9;p3;r1 4;r2 0;u0 0w99;u3 0;d0 0w1;");
        int[] want = { 3, 3, 14, 4, 0, 100 };
        for (int what = 0; what <= 5; what++) due.is("count(" + what + ")", w.count(what), want[what]);
        int[] on = { 2, 2, 2, 3, 3 };
        for (int i = 0; i < on.length; i++) {
            w.go(1);
            due.is("on the road behind " + (i + 1), w.count(4), on[i]);
        }
        w = Due.of("p2;".repeat(8) + "r1 4;r2 4;r3 4;r4 4;r5 4;r6 4;r7 4;");
        due.is("all room there can be", w.count(3), 28);
        due.is("one place between", Due.of("p2;p2;").count(3), 1);
        due.is("none between", Due.of("p2;").count(3), 0);
        due.is("all worth there can be", Due.of("u0 0w99;".repeat(7)).count(5), 693);
        for (int wrong : new int[] { -1, 6, Integer.MIN_VALUE, Integer.MAX_VALUE }) due.is("count(" + wrong + ")", w.count(wrong), -1);
        for (int what = 0; what <= 5; what++) due.is("nothing", new WhoBacks().count(what), 0);
    }

    // ---- shelves

    private static void shelves() {
        due.about("SHELVES 0 .. 7 each hold nothing (at first), a RULE, a ROW.");
        WhoBacks w = new WhoBacks();
        for (int d = 0; d < 8; d++) {
            due.is("nothing at first", w.words(d), -11);
            due.is("put into nothing", w.put(d, 0, 0), -11);
            due.element(w, d, 0, 2, 0);
            w.keep(d, 1, 3, d);
        }
        for (int d = 0; d < 8; d++) due.is("each its own rule", w.words(d), 2 + d);
        for (int d = 0; d < 8; d++) {
            w.row(d, 2, d + 1);
            w.put(d, d, 100 + d);
        }
        for (int d = 0; d < 8; d++) {
            due.element(w, d, d, 0, 100 + d);
            due.element(w, d, d + 1, 2, 0);
            due.is("a row now", w.words(d), -12);
        }
        w.keep(4, 1, 0, 0);
        due.is("a rule in the row's place", w.words(4), 2);
        due.element(w, 4, 0, 2, 0);
        w.keep(4, 0, 0, 0);
        due.is("nothing in the rule's place", w.words(4), -11);
        due.element(w, 3, 3, 0, 103);
        due.element(w, 5, 5, 0, 105);
        due.about("Their REFUSALS: -11 nothing is held where something is wanted; -12 it is of another kind; -13 a place that isn't there; -14 a size below 0; -15 a FAILURE that is none.");
        due.is("-11", w.put(4, 0, 0), -11);
        due.is("-12", w.words(3), -12);
        due.is("-13", w.put(3, 4, 0), -13);
        due.is("-14", w.row(3, 0, -1), -14);
        w.keep(4, 1, 3, 9);
        due.is("-15", w.toss(4), -15);
    }

    private static void keep() {
        due.about("`int keep(int d, int what, int k, int figure)`: SHELF d gets: what = 0 nothing (the others do not matter); 1 a RULE of KIND k with a FIGURE: 0. -1.");
        WhoBacks w = new WhoBacks();
        for (int d = 0; d < 8; d++) {
            due.is("a rule onto " + d, w.keep(d, 1, d, 9 - d), 0);
            due.is("nothing onto " + d, w.keep(d, 0, d == 0 ? Integer.MIN_VALUE : 8, d == 0 ? Integer.MAX_VALUE : -1), 0);
            due.is("nothing is held", w.words(d), -11);
            due.is("nothing onto nothing", w.keep(d, 0, 0, 0), 0);
        }
        w.keep(0, 1, 5, 3);
        for (int wrong : new int[] { -1, 8, Integer.MIN_VALUE, Integer.MAX_VALUE }) {
            due.is("no such shelf", w.keep(wrong, 1, 0, 0), -1);
            due.is("no such shelf for nothing", w.keep(wrong, 0, 0, 0), -1);
            due.is("no such kind", w.keep(0, 1, wrong, 0), -1);
        }
        for (int wrong : new int[] { -1, 2, 3, Integer.MIN_VALUE, Integer.MAX_VALUE }) due.is("no such what", w.keep(0, wrong, 0, 0), -1);
        for (int wrong : new int[] { -1, 10, Integer.MIN_VALUE, Integer.MAX_VALUE }) due.is("no such figure", w.keep(0, 1, 0, wrong), -1);
        due.is("the rule stays", w.toss(0), 216);
    }

    private static void row() {
        due.about("A ROW has a SORT (0 bytes, 1 shorts, 2 ints) and 0 .. 100 elements, 0 at first; what is put in keeps its lowest bits.");
        WhoBacks w = new WhoBacks();
        for (int sort = 0; sort <= 2; sort++) {
            for (int n : new int[] { 0, 1, 99, 100 }) {
                due.is("row(" + sort + ", " + sort + ", " + n + ")", w.row(sort, sort, n), 0);
                if (n > 0) due.element(w, sort, 0, 0, 0);
                if (n > 0) due.element(w, sort, n - 1, 0, 0);
                due.element(w, sort, n, 2, 0);
                if (n > 0) w.put(sort, 0, 5);
                if (n > 0) w.put(sort, n - 1, 6);
            }
            w.row(sort, sort, 100);
            for (int i = 0; i < 100; i++) due.element(w, sort, i, 0, 0);
        }
        due.about("`int row(int d, int sort, int n)`: SHELF d gets a ROW of a SORT: 0. -1 (n above 100); -14.");
        Due.ints(w, 0, 41, 42);
        due.is("101", w.row(0, 0, 101), -1);
        due.is("far above", w.row(0, 0, Integer.MAX_VALUE), -1);
        due.is("-1", w.row(0, 0, -1), -14);
        due.is("far below", w.row(0, 0, Integer.MIN_VALUE), -14);
        for (int wrong : new int[] { -1, 3, Integer.MIN_VALUE, Integer.MAX_VALUE }) {
            due.is("no such sort", w.row(0, wrong, 1), -1);
            due.is("no such sort, below 0", w.row(0, wrong, -1), -1);
        }
        for (int wrong : new int[] { -1, 8, Integer.MIN_VALUE, Integer.MAX_VALUE }) {
            due.is("no such shelf", w.row(wrong, 0, 1), -1);
            due.is("no such shelf, below 0", w.row(wrong, 0, -1), -1);
        }
        due.element(w, 0, 0, 0, 41);
        due.element(w, 0, 1, 0, 42);
        due.element(w, 0, 2, 2, 0);
    }

    private static void lowestBits() {
        due.about("what is put in keeps its lowest bits.");
        WhoBacks w = new WhoBacks();
        for (int sort = 0; sort <= 2; sort++) w.row(sort, sort, 3);
        long[][] want = {
            // what is put in, as a byte, a short, an int
            { 0, 0, 0, 0 }, { 1, 1, 1, 1 }, { -1, -1, -1, -1 }, { 127, 127, 127, 127 }, { 128, -128, 128, 128 }, { -128, -128, -128, -128 },
            { -129, 127, -129, -129 }, { 255, -1, 255, 255 }, { 256, 0, 256, 256 }, { 257, 1, 257, 257 }, { 32767, -1, 32767, 32767 },
            { 32768, 0, -32768, 32768 }, { -32768, 0, -32768, -32768 }, { -32769, -1, 32767, -32769 }, { 65535, -1, -1, 65535 },
            { 65536, 0, 0, 65536 }, { 65665, -127, 129, 65665 }, { 2147483647, -1, -1, 2147483647 }, { -2147483648, 0, 0, -2147483648L } };
        for (long[] v : want) {
            for (int sort = 0; sort <= 2; sort++) {
                w.put(sort, 1, (int) v[0]);
                due.element(w, sort, 1, 0, v[sort + 1]);
                due.element(w, sort, 0, 0, 0);
                due.element(w, sort, 2, 0, 0);
            }
        }
    }

    private static void putAndElement() {
        due.about("`int put(int d, int i, int v)`: Element i of the ROW becomes v: 0. -1, -11, -12, -13.");
        WhoBacks w = new WhoBacks();
        w.row(1, 2, 100);
        due.is("the first", w.put(1, 0, 7), 0);
        due.is("the last", w.put(1, 99, 8), 0);
        due.element(w, 1, 0, 0, 7);
        due.element(w, 1, 99, 0, 8);
        due.element(w, 1, 50, 0, 0);
        for (int wrong : new int[] { -1, 100, 101, Integer.MIN_VALUE, Integer.MAX_VALUE }) {
            due.is("no such place " + wrong, w.put(1, wrong, 1), -13);
            due.element(w, 1, wrong, 2, 0);
        }
        for (int wrong : new int[] { -1, 8, Integer.MIN_VALUE, Integer.MAX_VALUE }) {
            due.is("no such shelf " + wrong, w.put(wrong, 0, 1), -1);
            due.is("no such shelf, no such place " + wrong, w.put(wrong, -1, 1), -1);
        }
        due.is("into nothing", w.put(2, 0, 1), -11);
        due.is("into nothing, no such place", w.put(2, -1, 1), -11);
        w.row(2, 0, 5);
        w.put(2, 0, 9);
        w.keep(2, 1, 0, 0);
        due.is("into a rule", w.put(2, 0, 1), -12);
        due.is("into a rule, no such place", w.put(2, 100, 1), -12);
        w.row(2, 0, 0);
        due.is("into no element", w.put(2, 0, 1), -13);
        due.about("`long element(int d, int i) throws IllegalArgumentException, IllegalStateException`: Element i of the ROW. IllegalArgumentException: no such SHELF; IllegalStateException: no ROW, no such place.");
        for (int wrong : new int[] { -1, 8, Integer.MIN_VALUE, Integer.MAX_VALUE }) {
            due.element(w, wrong, 0, 1, 0);
            due.element(w, wrong, -1, 1, 0);
        }
        due.element(w, 2, 0, 2, 0);
        due.element(w, 3, 0, 2, 0);
        // what was a row of five is none when a rule or nothing came in its place
        Due.ints(w, 3, 1, 2, 3, 4, 5);
        due.element(w, 3, 4, 0, 5);
        w.keep(3, 1, 0, 0);
        for (int i = 0; i < 5; i++) due.element(w, 3, i, 2, 0);
        Due.ints(w, 3, 1, 2, 3, 4, 5);
        w.keep(3, 0, 0, 0);
        for (int i = 0; i < 5; i++) due.element(w, 3, i, 2, 0);
        for (int far : FAR) due.element(w, 1, far, 2, 0);
    }

    private static void copy() {
        due.about("`int copy(int d, int i, int e, int j, int n)`: n elements of the ROW in SHELF d from i on come to that in SHELF e from j on: n. -1, -11 (either), -12 (no ROWS of one SORT), -13 (n below 0, too).");
        for (int sort = 0; sort <= 2; sort++) {
            WhoBacks w = new WhoBacks();
            w.row(0, sort, 6);
            w.row(1, sort, 4);
            for (int i = 0; i < 6; i++) w.put(0, i, 10 + i);
            for (int i = 0; i < 4; i++) w.put(1, i, 20 + i);
            due.is("one", w.copy(0, 5, 1, 0, 1), 1);
            are(w, 1, 15, 21, 22, 23);
            due.is("the whole of the other", w.copy(0, 2, 1, 0, 4), 4);
            are(w, 1, 12, 13, 14, 15);
            due.is("to the end", w.copy(1, 0, 0, 2, 4), 4);
            are(w, 0, 10, 11, 12, 13, 14, 15);
            due.is("onto itself, up", w.copy(0, 0, 0, 1, 5), 5);
            are(w, 0, 10, 10, 11, 12, 13, 14);
            due.is("onto itself, down", w.copy(0, 2, 0, 0, 4), 4);
            are(w, 0, 11, 12, 13, 14, 13, 14);
            due.is("onto itself, all", w.copy(0, 0, 0, 0, 6), 6);
            are(w, 0, 11, 12, 13, 14, 13, 14);
            due.is("none", w.copy(0, 0, 1, 0, 0), 0);
            due.is("one too many from", w.copy(1, 0, 0, 0, 5), -13);
            due.is("one too far from", w.copy(1, 1, 0, 0, 4), -13);
            due.is("one too many to", w.copy(0, 0, 1, 0, 5), -13);
            due.is("one too far to", w.copy(0, 0, 1, 1, 4), -13);
            due.is("behind the last from", w.copy(1, 4, 0, 0, 1), -13);
            due.is("behind the last to", w.copy(0, 0, 1, 4, 1), -13);
            for (int far : FAR) {
                due.is("n " + far, w.copy(0, 0, 1, 0, far), -13);
                due.is("i " + far, w.copy(0, far, 1, 0, 1), -13);
                due.is("j " + far, w.copy(0, 0, 1, far, 1), -13);
                due.is("i " + far + ", none", w.copy(0, far, 1, 0, 0), -13);
                due.is("j " + far + ", none", w.copy(0, 0, 1, far, 0), -13);
            }
            due.is("i and n together too great", w.copy(0, 1, 1, 1, Integer.MAX_VALUE), -13);
            due.is("i and n together too great", w.copy(0, Integer.MAX_VALUE, 1, 0, Integer.MAX_VALUE), -13);
            are(w, 0, 11, 12, 13, 14, 13, 14);
            are(w, 1, 12, 13, 14, 15);
            for (int wrong : new int[] { -1, 8, Integer.MIN_VALUE, Integer.MAX_VALUE }) {
                due.is("no such shelf from", w.copy(wrong, 0, 1, 0, 1), -1);
                due.is("no such shelf to", w.copy(1, 0, wrong, 0, 1), -1);
                due.is("-1 goes ahead of -11", w.copy(5, 0, wrong, 0, 1), -1);
                due.is("-1 goes ahead of -11", w.copy(wrong, 0, 5, 0, 1), -1);
            }
            due.is("nothing from", w.copy(5, 0, 1, 0, 1), -11);
            due.is("nothing to", w.copy(1, 0, 5, 0, 1), -11);
            due.is("nothing, n below 0", w.copy(1, 0, 5, 0, -1), -11);
            // a rule where a row of that sort was
            w.row(2, sort, 4);
            w.keep(2, 1, 0, 0);
            due.is("a rule from", w.copy(2, 0, 1, 0, 1), -12);
            due.is("a rule to", w.copy(1, 0, 2, 0, 1), -12);
            due.is("two rules", w.copy(2, 0, 2, 0, 1), -12);
            due.is("-11 goes ahead of -12", w.copy(2, 0, 5, 0, 1), -11);
            due.is("-11 goes ahead of -12", w.copy(5, 0, 2, 0, 1), -11);
            for (int other = 0; other <= 2; other++) {
                w.row(3, other, 4);
                due.is("of sort " + sort + " and " + other, w.copy(1, 0, 3, 0, 2), other == sort ? 2 : -12);
                due.is("of sort " + other + " and " + sort, w.copy(3, 0, 1, 0, 2), other == sort ? 2 : -12);
                due.is("n below 0", w.copy(3, 0, 1, 0, -1), other == sort ? -13 : -12);
            }
        }
    }

    private static void are(WhoBacks w, int d, int... values) {
        for (int i = 0; i < values.length; i++) due.element(w, d, i, 0, values[i]);
    }

    private static void words() {
        due.about("WORDS of a RULE: RULE 2; SORTED a RULE's and 3; NEAR a RULE's and 4; HOUR a RULE's and FIGURE; BELL twice a RULE's and FIGURE; BEST a BELL's and 9; TOLD a SORTED's and 5; HILLED a NEAR's less 1.");
        WhoBacks w = new WhoBacks();
        for (int f = 0; f <= 9; f++) {
            int rule = 2;
            int sorted = rule + 3;
            int near = rule + 4;
            int bell = 2 * rule + f;
            int[] want = { rule, sorted, near, rule + f, bell, bell + 9, sorted + 5, near - 1 };
            for (int kind = 0; kind < 8; kind++) {
                w.keep(kind, 1, kind, f);
                due.is("words of " + kind + " with " + f, w.words(kind), want[kind]);
            }
        }
        due.about("of a KIND (or SORT) \"n more\", \"n less\" without more words is: than what the one it is under has;");
        w.keep(0, 1, 7, 9);
        due.is("HILLED: 1 less than a NEAR", w.words(0), 5);
        w.keep(0, 1, 5, 9);
        due.is("BEST: 9 more than a BELL with that FIGURE", w.words(0), 22);
        due.about("\"a and b\" of two numbers is their sum;");
        w.keep(0, 1, 4, 9);
        due.is("BELL: twice 2, and 9", w.words(0), 13);
        due.about("`int words(int d)`: WORDS of the RULE on SHELF d. -1, -11, -12 (a ROW).");
        for (int wrong : new int[] { -1, 8, Integer.MIN_VALUE, Integer.MAX_VALUE }) due.is("words(" + wrong + ")", w.words(wrong), -1);
        w.keep(0, 0, 0, 0);
        due.is("of nothing", w.words(0), -11);
        for (int sort = 0; sort <= 2; sort++) {
            w.row(0, sort, 1);
            due.is("of a row", w.words(0), -12);
        }
    }

    private static void the512thCall() {
        due.about("An object is used for at most 512 calls after it has been made; what later calls answer is free.");
        // the text takes 15 calls; they meet in minute 4, and cart 1, back at the END in minute 8, is done in minute 17
        WhoBacks w = Due.of("p9;u0 1;d0 1;");
        int calls = 15;
        for (int i = 0; i < 495; i++) {
            if (i % 5 == 0) due.is("anew()", w.anew(), 2);
            if (i % 5 == 1) due.is("go(20)", w.go(20), 18);
            if (i % 5 == 2) due.is("image()", w.image(), 18);
            if (i % 5 == 3) due.is("restore()", w.restore(), 18);
            if (i % 5 == 4) due.is("met(0, 1)", w.met(0, 1), 4);
            calls++;
        }
        due.is("calls so far", calls, 510);
        due.is("call 511", w.anew(), 2);
        due.is("call 512", w.go(200), 18);
    }

    private static void toss() {
        due.about("`int toss(int d)`: The FAILURE of the RULE on SHELF d is thrown, and caught: its FIGURE; of TOLD ones 100 more; of BEST ones 200 plus their WORDS, in place of all that (FIGURE, too). -1, -11, -12 (a ROW); -15: HOUR ones, and any with FIGURE 0, have none.");
        WhoBacks w = new WhoBacks();
        for (int kind = 0; kind < 8; kind++) {
            w.keep(0, 1, kind, 0);
            due.is("FIGURE 0, kind " + kind, w.toss(0), -15);
            for (int f = 1; f <= 9; f++) {
                int[] want = { f, f, f, -15, f, 200 + 13 + f, 100 + f, f };
                w.keep(0, 1, kind, f);
                due.is("kind " + kind + " with " + f, w.toss(0), want[kind]);
                due.is("it stays on its shelf", w.toss(0), want[kind]);
            }
        }
        for (int wrong : new int[] { -1, 8, Integer.MIN_VALUE, Integer.MAX_VALUE }) due.is("toss(" + wrong + ")", w.toss(wrong), -1);
        w.keep(0, 0, 0, 0);
        due.is("of nothing", w.toss(0), -11);
        for (int sort = 0; sort <= 2; sort++) {
            w.row(0, sort, 1);
            due.is("of a row", w.toss(0), -12);
        }
    }
}
