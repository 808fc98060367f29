/** Promises 27 to 38: rows at one place, the image, what is told, shelves. */
public final class PromisesOfTheRest {
    private static final Due due = new Due();

    public static void main(String[] args) {
        rows();
        aside();
        image();
        count();
        keep();
        row();
        putAndElement();
        copy();
        words();
        toss();
        due.end("PromisesOfTheRest");
    }

    private static void rows() {
        WhoBacks w = new WhoBacks();
        due.is("none at all", w.rows(0, 0, 0, 0, 0), 0);
        due.is("one across", w.rows(1, 0, 0, 1, 1), 1);
        due.is("one the other way", w.rows(0, 1, 0, 1, 1), 1);
        due.is("no room at the other side", w.rows(1, 0, 3, 1, 0), -4);
        due.is("three across", w.rows(3, 0, 0, 3, 3), 3);
        due.is("one each, one aside", w.rows(1, 1, 1, 1, 1), 3);
        due.is("one each, none aside", w.rows(1, 1, 0, 6, 6), -4);
        due.is("two each, two aside", w.rows(2, 2, 2, 2, 2), 6);
        due.is("two and one: the one goes aside", w.rows(2, 1, 1, 2, 2), 4);
        due.is("one and two", w.rows(1, 2, 1, 2, 2), 4);
        due.is("three each, all aside", w.rows(3, 3, 3, 3, 3), 9);
        due.is("three each, one aside", w.rows(3, 3, 1, 6, 6), 21);
        for (int wrong : new int[] { -1, 7, Integer.MIN_VALUE, Integer.MAX_VALUE }) {
            due.is("a " + wrong, w.rows(wrong, 0, 0, 6, 6), -1);
            due.is("b " + wrong, w.rows(0, wrong, 0, 6, 6), -1);
            due.is("r " + wrong, w.rows(0, 0, wrong, 6, 6), -1);
            due.is("one " + wrong, w.rows(0, 0, 0, wrong, 6), -1);
            due.is("other " + wrong, w.rows(0, 0, 0, 6, wrong), -1);
        }
        due.is("a 4", w.rows(4, 0, 0, 6, 6), -1);
        due.is("b 4", w.rows(0, 4, 0, 6, 6), -1);
        due.is("r 4", w.rows(1, 1, 4, 6, 6), -1);
        due.is("fewer than stand there", w.rows(2, 0, 0, 1, 6), -1);
        due.is("fewer than stand there", w.rows(0, 2, 0, 6, 1), -1);
        due.is("nothing of the road matters", Due.of("p3;u0 0;").rows(1, 1, 1, 1, 1), 3);
        Model m = new Model();
        for (int i = 0; i < 4 * 4 * 4 * 49; i++) {
            int a = i % 4, b = i / 4 % 4, r = i / 16 % 4, one = i / 64 % 7, other = i / 448;
            due.is("rows(" + a + "," + b + "," + r + "," + one + "," + other + ")", w.rows(a, b, r, one, other), m.rows(a, b, r, one, other));
        }
    }

    private static void aside() {
        WhoBacks w = new WhoBacks();
        due.is("none is needed", w.aside(3, 0, 3, 3), 0);
        due.is("one", w.aside(1, 1, 1, 1), 1);
        due.is("two", w.aside(2, 2, 2, 2), 2);
        due.is("three", w.aside(3, 3, 3, 3), 3);
        due.is("one, with room at the sides", w.aside(3, 3, 6, 6), 1);
        due.is("never", w.aside(1, 0, 1, 0), -4);
        due.is("aside(4, 0, 6, 6)", w.aside(4, 0, 6, 6), -1);
        due.is("aside(0, -1, 6, 6)", w.aside(0, -1, 6, 6), -1);
        due.is("aside(0, 0, 7, 6)", w.aside(0, 0, 7, 6), -1);
        due.is("aside(0, 0, 6, -1)", w.aside(0, 0, 6, -1), -1);
        due.is("aside(2, 0, 1, 6)", w.aside(2, 0, 1, 6), -1);
    }

    private static void image() {
        WhoBacks w = Due.of("p4;p2;r1 2;u0 1w7;d0 2;x1 35;v1 1;");
        due.is("restore of none", w.restore(), -3);
        w.go(3);
        int[] then = { w.where(0, 0), w.where(1, 0), w.where(1, 1), w.state(2), w.state(5) };
        due.is("image()", w.image(), 3);
        due.is("the minute stays", w.state(0), 3);
        w.keep(6, 1, 4, 4);
        w.go(4);
        w.anew();
        w.backs(1, 0);
        Due.road(w, "p9;d9 1;r1 0;x1 77;v1 2;");
        due.is("restore()", w.restore(), 3);
        int[] now = { w.where(0, 0), w.where(1, 0), w.where(1, 1), w.state(2), w.state(5) };
        for (int i = 0; i < 5; i++) due.is("restored " + i, now[i], then[i]);
        due.is("restored: state(0)", w.state(0), 3);
        due.is("restored: pieces", w.count(0), 2);
        due.is("restored: carts", w.count(1), 2);
        due.is("restored: end", w.count(2), 6);
        due.is("restored: room", w.room(1), 2);
        due.is("restored: backs", w.cart(1, 3), 2);
        due.is("restored: rule", w.village(1, 0) * 10 + w.village(1, 1), 35);
        due.is("restored: village", w.piece(1, 2), 1);
        due.is("shelves stay as they are", w.words(6), 8);
        due.is("it goes on as before", w.go(200), Due.of("p4;p2;r1 2;u0 1w7;d0 2;x1 35;v1 1;").go(200));
        due.is("restored again", w.restore(), 3);
        due.is("where(0, 0)", w.where(0, 0), then[0]);
        w.anew();
        due.is("a new image", w.image(), 0);
        w.go(2);
        due.is("takes the old one's place", w.restore(), 0);
    }

    private static void count() {
        WhoBacks w = Due.of("p4;p2;p9;r1 2;r2 4;u0 1w7;d0 2w99;u5 0;");
        int[] want = { 3, 3, 15, 6, 0, 106 };
        for (int what = 0; what <= 5; what++) due.is("count(" + what + ")", w.count(what), want[what]);
        w.go(1);
        due.is("two are on the road", w.count(4), 2);
        w = Due.of("p2;u0 0;u1 0;x0 30;d0 0;");
        w.go(1);
        due.is("those at places, too", w.count(4), 2);
        w.go(1);
        due.is("one is done", w.count(4), 2);
        due.is("count(6)", w.count(6), -1);
        due.is("count(-1)", w.count(-1), -1);
    }

    private static void keep() {
        WhoBacks w = new WhoBacks();
        due.is("keep", w.keep(0, 1, 7, 9), 0);
        due.is("words", w.words(0), 5);
        due.is("keep(8, ..)", w.keep(8, 1, 0, 0), -1);
        due.is("keep(-1, ..)", w.keep(-1, 0, 0, 0), -1);
        due.is("what 2", w.keep(0, 2, 0, 0), -1);
        due.is("what -1", w.keep(0, -1, 0, 0), -1);
        due.is("kind 8", w.keep(0, 1, 8, 0), -1);
        due.is("kind -1", w.keep(0, 1, -1, 0), -1);
        due.is("figure 10", w.keep(0, 1, 0, 10), -1);
        due.is("figure -1", w.keep(0, 1, 0, -1), -1);
        due.is("refused: the rule stays", w.words(0), 5);
        due.is("nothing: the others don't matter", w.keep(0, 0, -9, 99), 0);
        due.is("nothing is held", w.words(0), -11);
        w.row(0, 0, 5);
        w.keep(0, 1, 3, 3);
        due.is("a rule in a row's place", w.put(0, 0, 1), -12);
        due.is("its words", w.words(0), 5);
    }

    private static void row() {
        WhoBacks w = new WhoBacks();
        for (int sort = 0; sort < 3; sort++) due.is("row", w.row(sort, sort, 100), 0);
        due.is("row(0, 0, 101)", w.row(0, 0, 101), -1);
        due.is("row(0, 3, 1)", w.row(0, 3, 1), -1);
        due.is("row(0, -1, 1)", w.row(0, -1, 1), -1);
        due.is("row(8, 0, 1)", w.row(8, 0, 1), -1);
        due.is("row(-1, 0, 1)", w.row(-1, 0, 1), -1);
        due.is("row(0, 0, -1)", w.row(0, 0, -1), -14);
        due.is("-1 goes ahead of -14", w.row(8, 0, -1), -1);
        due.is("-1 goes ahead of -14", w.row(0, 3, -1), -1);
        due.element(w, 0, 99, 0, 0);
        w.put(0, 4, 9);
        w.row(0, 0, 5);
        due.element(w, 0, 4, 0, 0);
        due.element(w, 0, 5, 2, 0);
        due.is("an empty row", w.row(0, 0, 0), 0);
        due.element(w, 0, 0, 2, 0);
    }

    private static void putAndElement() {
        WhoBacks w = new WhoBacks();
        for (int sort = 0; sort < 3; sort++) w.row(sort, sort, 4);
        int[] put = { 127, 128, -129, 70000, Integer.MIN_VALUE, -1, 255, 32768 };
        for (int v : put) {
            long[] want = { (byte) v, (short) v, v };
            for (int sort = 0; sort < 3; sort++) {
                due.is("put(" + sort + ", 3, " + v + ")", w.put(sort, 3, v), 0);
                due.element(w, sort, 3, 0, want[sort]);
                due.element(w, sort, 2, 0, 0);
            }
        }
        due.is("put(0, 4, 1)", w.put(0, 4, 1), -13);
        due.is("put(0, -1, 1)", w.put(0, -1, 1), -13);
        due.is("put(0, MAX, 1)", w.put(0, Integer.MAX_VALUE, 1), -13);
        due.is("put(8, 0, 1)", w.put(8, 0, 1), -1);
        due.is("put(-1, 0, 1)", w.put(-1, 0, 1), -1);
        due.is("put(3, 0, 1)", w.put(3, 0, 1), -11);
        w.keep(3, 1, 0, 0);
        due.is("put into a rule", w.put(3, 0, 1), -12);
        due.element(w, 3, 0, 2, 0);
        due.element(w, 4, 0, 2, 0);
        due.element(w, 8, 0, 1, 0);
        due.element(w, -1, 0, 1, 0);
        due.element(w, 0, -1, 2, 0);
        due.element(w, 0, 4, 2, 0);
        due.element(w, 0, Integer.MIN_VALUE, 2, 0);
    }

    private static void copy() {
        WhoBacks w = new WhoBacks();
        Due.ints(w, 0, 1, 2, 3, 4, 5);
        Due.ints(w, 1, 9, 9, 9);
        due.is("copy", w.copy(0, 1, 1, 0, 2), 2);
        due.element(w, 1, 0, 0, 2);
        due.element(w, 1, 1, 0, 3);
        due.element(w, 1, 2, 0, 9);
        due.is("onto itself, up", w.copy(0, 0, 0, 1, 4), 4);
        for (int i = 0; i < 5; i++) due.element(w, 0, i, 0, Math.max(1, i));
        due.is("onto itself, down", w.copy(0, 2, 0, 0, 3), 3);
        for (int i = 0; i < 3; i++) due.element(w, 0, i, 0, i + 2);
        due.is("none", w.copy(0, 5, 1, 3, 0), 0);
        due.is("all", w.copy(1, 0, 0, 2, 3), 3);
        due.is("n -1", w.copy(0, 0, 1, 0, -1), -13);
        due.is("i -1", w.copy(0, -1, 1, 0, 1), -13);
        due.is("j -1", w.copy(0, 0, 1, -1, 1), -13);
        due.is("too many from", w.copy(1, 1, 0, 0, 3), -13);
        due.is("too many to", w.copy(0, 0, 1, 1, 3), -13);
        due.is("far too many", w.copy(0, 1, 1, 1, Integer.MAX_VALUE), -13);
        due.is("far off", w.copy(0, Integer.MAX_VALUE, 1, 1, 1), -13);
        due.is("copy(8, ..)", w.copy(8, 0, 1, 0, 1), -1);
        due.is("copy(.., -1, ..)", w.copy(0, 0, -1, 0, 1), -1);
        due.is("from nothing", w.copy(5, 0, 1, 0, 1), -11);
        due.is("to nothing", w.copy(1, 0, 5, 0, 1), -11);
        w.keep(4, 1, 0, 0);
        due.is("a rule and nothing: -11 goes ahead", w.copy(4, 0, 5, 0, 1), -11);
        due.is("from a rule", w.copy(4, 0, 1, 0, 1), -12);
        due.is("to a rule", w.copy(1, 0, 4, 0, 1), -12);
        w.row(6, 1, 5);
        due.is("of another sort", w.copy(0, 0, 6, 0, 1), -12);
        due.is("-12 goes ahead of -13", w.copy(0, 0, 6, 0, -1), -12);
    }

    private static void words() {
        WhoBacks w = new WhoBacks();
        int[] atFigure0 = { 2, 5, 6, 2, 4, 13, 10, 5 };
        for (int kind = 0; kind < 8; kind++) {
            for (int figure = 0; figure <= 9; figure++) {
                w.keep(2, 1, kind, figure);
                boolean counts = kind == 3 || kind == 4 || kind == 5;
                due.is("words of " + kind + figure, w.words(2), atFigure0[kind] + (counts ? figure : 0));
            }
        }
        due.is("words(-1)", w.words(-1), -1);
        due.is("words(8)", w.words(8), -1);
        due.is("words of nothing", w.words(1), -11);
        w.row(1, 0, 1);
        due.is("words of a row", w.words(1), -12);
    }

    private static void toss() {
        WhoBacks w = new WhoBacks();
        for (int kind = 0; kind < 8; kind++) {
            for (int figure = 0; figure <= 9; figure++) {
                w.keep(2, 1, kind, figure);
                int want = kind == 3 || figure == 0 ? -15 : kind == 5 ? 213 + figure : kind == 6 ? 100 + figure : figure;
                due.is("toss of " + kind + figure, w.toss(2), want);
            }
        }
        due.is("toss(-1)", w.toss(-1), -1);
        due.is("toss(8)", w.toss(8), -1);
        due.is("toss of nothing", w.toss(1), -11);
        w.row(1, 0, 1);
        due.is("toss of a row", w.toss(1), -12);
    }
}
