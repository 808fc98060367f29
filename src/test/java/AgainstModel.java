import java.util.Random;

/** Random runs of calls, each answered by the class and by the model. */
public final class AgainstModel {
    private static final int RUNS = 250;
    private static final int CALLS = 400;

    private final Random random;
    private final WhoBacks w = new WhoBacks();
    private final Model m = new Model();
    private final StringBuilder told = new StringBuilder();
    private boolean wrong;

    private AgainstModel(long seed) { random = new Random(seed); }

    public static void main(String[] args) {
        int failures = 0;
        for (int seed = 1; seed <= RUNS; seed++) {
            AgainstModel run = new AgainstModel(seed);
            run.build();
            for (int i = 0; i < CALLS && !run.wrong; i++) run.call();
            if (!run.wrong) continue;
            failures++;
            if (failures <= 3) System.out.println("seed " + seed + ":" + run.told);
        }
        System.out.println("AgainstModel: " + (RUNS - failures) + " runs as the model, " + failures + " not");
        if (failures != 0) System.exit(1);
    }

    private void same(String call, long got, long want) {
        told.append("\n  ").append(call).append(" answered ").append(got);
        if (got == want) return;
        told.append(", the model ").append(want);
        wrong = true;
    }

    private int below(int n) { return random.nextInt(n); }
    /** Mostly within 0 .. n less 1, now and then beside it. */
    private int about(int n) { return below(12) == 0 ? below(n + 4) - 2 : below(Math.max(1, n)); }
    private boolean perhaps(int in) { return below(in) == 0; }

    private void build() {
        StringBuilder s = new StringBuilder();
        int pieces = 1 + below(5);
        for (int i = 0; i < pieces; i++) s.append(pieceText());
        for (int i = below(3); i > 0; i--) s.append("r").append(below(pieces + 1)).append(' ').append(below(5)).append(';');
        load(s.toString());
        s.setLength(0);
        for (int i = 1 + below(7); i > 0; i--) s.append(cartText());
        load(s.toString());
        s.setLength(0);
        for (int i = below(4); i > 0; i--) s.append("x").append(below(3)).append(' ').append(below(8)).append(below(10)).append(';');
        for (int i = below(4); i > 0; i--) s.append("v").append(below(pieces)).append(' ').append(below(3)).append(';');
        load(s.toString());
    }
    private String pieceText() { return "p" + (2 + below(perhaps(4) ? 8 : 4)) + (perhaps(2) ? "h" + below(3) : "") + ";"; }
    private String cartText() {
        return (perhaps(2) ? "u" : "d") + below(perhaps(5) ? 200 : 30) + " " + below(4) + (perhaps(2) ? "l" : "") + (perhaps(2) ? "w" + below(100) : "") + ";";
    }
    private void load(String text) {
        same("row(0, 0, " + text.length() + ")", w.row(0, 0, text.length()), m.row(0, 0, text.length()));
        for (int i = 0; i < text.length() && i < 100; i++) {
            w.put(0, i, text.charAt(i));
            m.put(0, i, text.charAt(i));
        }
        same("road of " + text, w.road(0), m.road(0));
    }
    private String strayText() {
        String signs = "prvxudhlw0123456789 ;";
        StringBuilder s = new StringBuilder();
        for (int i = 1 + below(3); i > 0; i--) {
            switch (below(6)) {
                case 0: s.append(pieceText()); break;
                case 1: s.append("r").append(below(10)).append(' ').append(below(7)).append(';'); break;
                case 2: s.append("v").append(below(10)).append(' ').append(below(5)).append(';'); break;
                case 3: s.append("x").append(below(5)).append(' ').append(below(10)).append(below(10)).append(';'); break;
                case 4: s.append(cartText()); break;
                default: s.append("u").append(below(1100)).append(" ").append(below(6)).append("w").append(below(1100)).append(";"); break;
            }
        }
        if (perhaps(2) && s.length() > 0) {
            int at = below(s.length());
            char c = signs.charAt(below(signs.length()));
            if (perhaps(3)) s.deleteCharAt(at);
            else if (perhaps(2)) s.insert(at, c);
            else s.setCharAt(at, perhaps(9) ? (char) below(256) : c);
        }
        return s.toString();
    }

    private void call() {
        int a = about(perhaps(3) ? 3 : 7), b = about(7), d = about(perhaps(3) ? 3 : 8), what = about(6);
        switch (below(38)) {
            case 0: case 1: load(strayText()); break;
            case 2: same("piece(" + a + "," + what + ")", w.piece(a, what), m.piece(a, what)); break;
            case 3: same("room(" + a + ")", w.room(a), m.room(a)); break;
            case 4: same("cart(" + a + "," + what + ")", w.cart(a, what), m.cart(a, what)); break;
            case 5: if (perhaps(3)) same("backs(" + a + "," + what + ")", w.backs(a, what), m.backs(a, what)); break;
            case 6: same("village(" + a + "," + d + ")", w.village(a, d), m.village(a, d)); break;
            case 7: same("rule(" + d + "," + what + ")", w.rule(d, what), m.rule(d, what)); break;
            case 8: case 9: case 10: minutes(); break;
            case 11: if (perhaps(5)) same("anew()", w.anew(), m.anew()); break;
            case 12: case 13: all(); break;
            case 14: same("state(" + what + ")", w.state(what), m.state(what)); break;
            case 15: same("enters(" + a + ")", w.enters(a), m.enters(a)); break;
            case 16: same("yields(" + a + "," + b + "," + what + ")", w.yields(a, b, what), m.yields(a, b, what)); break;
            case 17: judge(a, d); break;
            case 18: same("run(" + d + "," + what + ")", w.run(d, what), m.run(d, what)); break;
            case 19: if (perhaps(3)) same("ever(" + a + ")", w.ever(a), m.ever(a)); break;
            case 20: if (perhaps(12)) same("best(" + what + ")", w.best(what), m.best(what)); break;
            case 21: same("more(" + what + ")", w.more(what), m.more(what)); break;
            case 22: fit(d); break;
            case 23: if (perhaps(3)) same("shortest()", w.shortest(), m.shortest()); break;
            case 24: same("hours(" + what + ")", w.hours(what), m.hours(what)); break;
            case 25: same("stubborn(" + a + ")", w.stubborn(a), m.stubborn(a)); break;
            case 26: same("heard(" + what + ")", w.heard(what), m.heard(what)); break;
            case 27: days(); break;
            case 28: same("met(" + a + "," + b + ")", w.met(a, b), m.met(a, b)); break;
            case 29: rows(); break;
            case 30: if (perhaps(3)) same("image()", w.image(), m.image()); break;
            case 31: if (perhaps(4)) same("restore()", w.restore(), m.restore()); break;
            case 32: same("count(" + what + ")", w.count(what), m.count(what)); break;
            case 33: keep(d); break;
            case 34: row(d); break;
            case 35: element(d); break;
            case 36: copy(d); break;
            default: same("words(" + d + ")", w.words(d), m.words(d)); same("toss(" + d + ")", w.toss(d), m.toss(d)); break;
        }
    }

    private void minutes() {
        int n = perhaps(6) ? about(201) : 1 + below(8);
        same("go(" + n + ")", w.go(n), m.go(n));
    }
    private void all() {
        for (int c = -1; c <= 7; c++) for (int what = -1; what <= 5; what++)
            same("where(" + c + "," + what + ")", w.where(c, what), m.where(c, what));
        for (int what = 0; what <= 5; what++) same("state(" + what + ")", w.state(what), m.state(what));
    }
    private void judge(int c, int d) {
        if (perhaps(2)) {
            // a row that is mostly right: what the model itself foretells
            int sort = below(3);
            w.row(1, sort, 30);
            m.row(1, sort, 30);
            int least = sort == 0 ? -128 : sort == 1 ? -32768 : Integer.MIN_VALUE;
            for (int i = 0; i < 30; i++) {
                w.put(1, i, least);
                m.put(1, i, least);
            }
            for (int i = 0; i < 30; i++) {
                if (perhaps(3)) continue;
                for (int spot = -3; spot < 60; spot++) {
                    w.put(1, i, spot);
                    m.put(1, i, spot);
                    if (m.judge(c, 1) == -4 || perhaps(2000)) break;
                }
            }
            d = 1;
        }
        same("judge(" + c + "," + d + ")", w.judge(c, d), m.judge(c, d));
    }
    private void fit(int d) {
        if (perhaps(2)) {
            int n = 1 + below(8);
            d = 2;
            w.row(2, 0, n);
            m.row(2, 0, n);
            for (int i = 0; i < n; i++) {
                int kind = below(perhaps(20) ? 10 : 8);
                w.put(2, i, kind);
                m.put(2, i, kind);
            }
        }
        int figure = about(10);
        same("fit(" + d + "," + figure + ")", w.fit(d, figure), m.fit(d, figure));
    }
    private void days() {
        int days = about(6), n = about(61), z = random.nextInt();
        same("days(" + days + "," + n + "," + z + ")", w.days(days, n, z), m.days(days, n, z));
    }
    private void rows() {
        int a = about(4), b = about(4), r = about(4), one = about(7), other = about(7);
        same("rows(" + a + "," + b + "," + r + "," + one + "," + other + ")", w.rows(a, b, r, one, other), m.rows(a, b, r, one, other));
        same("aside(" + a + "," + b + "," + one + "," + other + ")", w.aside(a, b, one, other), m.aside(a, b, one, other));
    }
    private void keep(int d) {
        int what = perhaps(8) ? below(5) - 2 : 1, k = about(8), figure = about(10);
        same("keep(" + d + "," + what + "," + k + "," + figure + ")", w.keep(d, what, k, figure), m.keep(d, what, k, figure));
    }
    private void row(int d) {
        int sort = about(3), n = perhaps(10) ? below(200) - 50 : below(9);
        same("row(" + d + "," + sort + "," + n + ")", w.row(d, sort, n), m.row(d, sort, n));
        for (int i = 0; i < n; i++) {
            int v = perhaps(10) ? random.nextInt() : below(40);
            same("put(" + d + "," + i + "," + v + ")", w.put(d, i, v), m.put(d, i, v));
        }
    }
    private void element(int d) {
        int i = about(9);
        long got = asNumber(true, d, i), want = asNumber(false, d, i);
        same("element(" + d + "," + i + ")", got, want);
    }
    private long asNumber(boolean ofClass, int d, int i) {
        try {
            return ofClass ? w.element(d, i) : m.element(d, i);
        } catch (IllegalArgumentException e) {
            return Long.MIN_VALUE;
        } catch (IllegalStateException e) {
            return Long.MAX_VALUE;
        }
    }
    private void copy(int d) {
        int i = about(6), e = about(8), j = about(6), n = about(6);
        same("copy(" + d + "," + i + "," + e + "," + j + "," + n + ")", w.copy(d, i, e, j, n), m.copy(d, i, e, j, n));
    }
}
