import java.util.ArrayList;
import java.util.List;

/** Every refusal of every call: its answer, that the first one told at the call is answered, and that nothing changes by it. */
public final class Refusals {
    private static final Due due = new Due();

    private interface Call { long on(WhoBacks w); }

    private static final class Refused {
        final String name;
        final long want;
        final Call call;
        Refused(String name, long want, Call call) {
            this.name = name;
            this.want = want;
            this.call = call;
        }
    }

    private static final List<Refused> REFUSED = new ArrayList<>();

    private static void refused(String name, long want, Call call) { REFUSED.add(new Refused(name, want, call)); }

    public static void main(String[] args) {
        due.about("Answers of several refusals are the first one as they are told at the call: -1 no such thing, a number out of range, or not as told; -2 no room; -3 it can't be as things stand (no PIECES, too, where told); -4 none; -11 to -15; where numbers that may be below 0 are answered (told at the call), 1000000000 less.");
        ofRoads();
        ofMinutes();
        inMind();
        ofRows();
        ofShelves();
        for (Refused r : REFUSED) due.is(r.name, r.call.on(onItsWay()), r.want);
        due.about("A refused call changes nothing.");
        changeNothing(Refusals::onItsWay);
        REFUSED.clear();
        asThingsStand();
        for (Refused r : REFUSED) due.is(r.name + " of nothing", r.call.on(shelved(new WhoBacks())), r.want);
        changeNothing(() -> shelved(new WhoBacks()));
        for (Refused r : REFUSED) {
            due.is(r.name + " without pieces", r.call.on(shelved(Due.of("u0 1;d0 2;u9 3;"))), r.want);
            due.is(r.name + " without carts", r.call.on(shelved(Due.of("p3;p4;p2;"))), r.want);
        }
        changeNothing(() -> shelved(Due.of("u0 1;d0 2;u9 3;")));
        REFUSED.clear();
        ofWhatEnded();
        changeNothing(Refusals::ended);
        noImage();
        due.end("Refusals");
    }

    // ---- what the calls are made on

    /** Shelf 1: a rule; 2: shorts 1, 2, 3; 3: ints 201, -1; 5: no bytes; 6: bytes 8, 0; 4 and 7: nothing. */
    private static WhoBacks shelved(WhoBacks w) {
        w.keep(1, 1, 3, 5);
        w.row(2, 1, 3);
        for (int i = 0; i < 3; i++) w.put(2, i, i + 1);
        Due.ints(w, 3, 201, -1);
        w.row(5, 0, 0);
        w.row(6, 0, 2);
        w.put(6, 0, 8);
        return w;
    }

    private static WhoBacks onItsWay() {
        WhoBacks w = Due.of("p3h1;p4;p2;r1 2;v1 1;x0 10;x1 25;u0 2lw3;d0 1w4;u9 3;");
        w.go(2);
        w.image();
        w.go(3);
        return shelved(w);
    }

    private static WhoBacks ended() {
        WhoBacks w = Due.of("p3;p4;u0 2lw3;d0 1w4;");
        w.go(2);
        w.image();
        w.go(200);
        return shelved(w);
    }

    /** All that can be asked, of three pieces and three carts, and shelves. */
    private static String told(WhoBacks w) {
        StringBuilder s = new StringBuilder();
        for (int i = 0; i <= 5; i++) s.append(w.count(i)).append(' ').append(w.state(i)).append(' ');
        for (int k = 0; k < 4; k++) for (int what = 0; what < 4; what++) s.append(w.piece(k, what)).append(' ');
        for (int k = 0; k < 5; k++) s.append(w.room(k)).append(' ');
        for (int v = 0; v < 3; v++) s.append(w.village(v, 0)).append(w.village(v, 1)).append(' ');
        for (int k = 0; k < 4; k++) for (int what = 0; what < 5; what++) s.append(w.cart(k, what)).append('/').append(w.where(k, what)).append(' ');
        for (int d = 0; d < 8; d++) {
            s.append(w.words(d)).append('/').append(w.toss(d)).append(' ');
            for (int i = 0; i < 4; i++) s.append(elementOf(w, d, i)).append(' ');
        }
        return s.toString();
    }

    /** An element, or 5000000001 for an IllegalArgumentException, 5000000002 for an IllegalStateException. */
    private static long elementOf(WhoBacks w, int d, int i) {
        try {
            return w.element(d, i);
        } catch (IllegalArgumentException e) {
            return 5000000001L;
        } catch (IllegalStateException e) {
            return 5000000002L;
        }
    }

    private interface Maker { WhoBacks make(); }

    private static void changeNothing(Maker maker) {
        String before = told(maker.make());
        WhoBacks restored = maker.make();
        int image = restored.restore();
        String then = told(restored);
        WhoBacks later = maker.make();
        int minute = later.go(4);
        String gone = told(later);
        for (Refused r : REFUSED) {
            WhoBacks w = maker.make();
            r.call.on(w);
            due.is(r.name + " changes nothing", told(w).equals(before) ? 1 : 0, 1);
            due.is(r.name + " changes no minute to come", w.go(4) == minute && told(w).equals(gone) ? 1 : 0, 1);
            w = maker.make();
            r.call.on(w);
            due.is(r.name + " changes no image", w.restore() == image && told(w).equals(then) ? 1 : 0, 1);
        }
    }

    // ---- the calls

    private static void ofRoads() {
        refused("road(-1)", -1, w -> w.road(-1));
        refused("road(8)", -1, w -> w.road(8));
        refused("road(4)", -11, w -> w.road(4));
        refused("road(1)", -12, w -> w.road(1));
        refused("road(2)", -12, w -> w.road(2));
        refused("road(3)", -12, w -> w.road(3));
        refused("road(0): minutes went by", -2000, w -> w.road(0));
        refused("road(5): no statement", -1000, w -> w.road(5));
        refused("road(6): no road", -1000, w -> w.road(6));
        refused("piece(3, 0)", -1, w -> w.piece(3, 0));
        refused("piece(0, 4)", -1, w -> w.piece(0, 4));
        refused("room(4)", -1, w -> w.room(4));
        refused("cart(3, 0)", -1, w -> w.cart(3, 0));
        refused("cart(0, 5)", -1, w -> w.cart(0, 5));
        refused("backs(3, 1)", -1, w -> w.backs(3, 1));
        refused("backs(-1, 1)", -1, w -> w.backs(-1, 1));
        refused("backs(0, 4)", -1, w -> w.backs(0, 4));
        refused("backs(0, -1)", -1, w -> w.backs(0, -1));
        refused("village(3, 0)", -1, w -> w.village(3, 0));
        refused("village(0, 2)", -1, w -> w.village(0, 2));
        refused("rule(8, 0)", -1, w -> w.rule(8, 0));
        refused("rule(1, 3)", -1, w -> w.rule(1, 3));
        refused("rule(1, -1)", -1, w -> w.rule(1, -1));
        refused("rule(4, 3): -1 ahead of -11", -1, w -> w.rule(4, 3));
        refused("rule(2, 3): -1 ahead of -12", -1, w -> w.rule(2, 3));
        refused("rule(4, 0)", -11, w -> w.rule(4, 0));
        refused("rule(2, 0)", -12, w -> w.rule(2, 0));
    }

    private static void ofMinutes() {
        refused("go(0)", -1, w -> w.go(0));
        refused("go(201)", -1, w -> w.go(201));
        refused("where(3, 0)", -1000000001, w -> w.where(3, 0));
        refused("where(0, 5)", -1000000001, w -> w.where(0, 5));
        refused("state(6)", -1, w -> w.state(6));
        refused("enters(3)", -1, w -> w.enters(3));
        refused("enters(2): ahead", -3, w -> w.enters(2));
        refused("yields(0, 3, 0)", -1, w -> w.yields(0, 3, 0));
        refused("yields(0, 0, 0)", -1, w -> w.yields(0, 0, 0));
        refused("yields(0, 1, 3)", -1, w -> w.yields(0, 1, 3));
        refused("yields(2, 2, 0): -1 ahead of -3", -1, w -> w.yields(2, 2, 0));
        refused("yields(0, 2, 3): -1 ahead of -3", -1, w -> w.yields(0, 2, 3));
        refused("yields(0, 2, 0)", -3, w -> w.yields(0, 2, 0));
        refused("yields(1, 2, 0)", -3, w -> w.yields(1, 2, 0));
        refused("judge(3, 2)", -1, w -> w.judge(3, 2));
        refused("judge(0, 8)", -1, w -> w.judge(0, 8));
        refused("judge(3, 4): -1 ahead of -11", -1, w -> w.judge(3, 4));
        refused("judge(3, 1): -1 ahead of -12", -1, w -> w.judge(3, 1));
        refused("judge(0, 4)", -11, w -> w.judge(0, 4));
        refused("judge(0, 1)", -12, w -> w.judge(0, 1));
    }

    private static void inMind() {
        refused("run(8, 0)", -1, w -> w.run(8, 0));
        refused("run(2, 5)", -1, w -> w.run(2, 5));
        refused("run(4, 5): -1 ahead of -11", -1, w -> w.run(4, 5));
        refused("run(1, 5): -1 ahead of -12", -1, w -> w.run(1, 5));
        refused("run(3, 5): -1 ahead of -13", -1, w -> w.run(3, 5));
        refused("run(4, 0)", -11, w -> w.run(4, 0));
        refused("run(1, 0)", -12, w -> w.run(1, 0));
        refused("run(3, 0)", -13, w -> w.run(3, 0));
        refused("ever(3)", -1, w -> w.ever(3));
        refused("best(2)", -1, w -> w.best(2));
        refused("more(2)", -1, w -> w.more(2));
        refused("fit(8, 0)", -1, w -> w.fit(8, 0));
        refused("fit(6, 10)", -1, w -> w.fit(6, 10));
        refused("fit(4, 10): -1 ahead of -11", -1, w -> w.fit(4, 10));
        refused("fit(2, 10): -1 ahead of -12", -1, w -> w.fit(2, 10));
        refused("fit(5, 10): -1 ahead of -13", -1, w -> w.fit(5, 10));
        refused("fit(4, 0)", -11, w -> w.fit(4, 0));
        refused("fit(1, 0)", -12, w -> w.fit(1, 0));
        refused("fit(2, 0)", -12, w -> w.fit(2, 0));
        refused("fit(5, 0)", -13, w -> w.fit(5, 0));
        refused("fit(6, 0)", -13, w -> w.fit(6, 0));
        refused("hours(2)", -1, w -> w.hours(2));
        refused("stubborn(3)", -1000000001, w -> w.stubborn(3));
        refused("heard(10)", -1000000001, w -> w.heard(10));
        refused("days(0, 1, 1)", -1, w -> w.days(0, 1, 1));
        refused("days(1, 61, 1)", -1, w -> w.days(1, 61, 1));
        refused("met(0, 3)", -1, w -> w.met(0, 3));
        refused("met(1, 1)", -1, w -> w.met(1, 1));
        refused("met(0, 2): they never meet", -4, w -> w.met(0, 2));
    }

    private static void ofRows() {
        refused("rows(4, 0, 0, 6, 6)", -1, w -> w.rows(4, 0, 0, 6, 6));
        refused("rows(1, 1, 4, 6, 6)", -1, w -> w.rows(1, 1, 4, 6, 6));
        refused("rows(1, 1, 0, 6, 6)", -4, w -> w.rows(1, 1, 0, 6, 6));
        refused("aside(1, 4, 6, 6)", -1, w -> w.aside(1, 4, 6, 6));
        refused("aside(1, 0, 1, 0)", -4, w -> w.aside(1, 0, 1, 0));
        refused("count(6)", -1, w -> w.count(6));
    }

    private static void ofShelves() {
        refused("keep(8, 1, 0, 0)", -1, w -> w.keep(8, 1, 0, 0));
        refused("keep(8, 0, 0, 0)", -1, w -> w.keep(8, 0, 0, 0));
        refused("keep(1, 2, 0, 0)", -1, w -> w.keep(1, 2, 0, 0));
        refused("keep(1, -1, 0, 0)", -1, w -> w.keep(1, -1, 0, 0));
        refused("keep(1, 1, 8, 0)", -1, w -> w.keep(1, 1, 8, 0));
        refused("keep(1, 1, 0, 10)", -1, w -> w.keep(1, 1, 0, 10));
        refused("keep(2, 1, 8, 0)", -1, w -> w.keep(2, 1, 8, 0));
        refused("row(8, 0, 1)", -1, w -> w.row(8, 0, 1));
        refused("row(2, 3, 1)", -1, w -> w.row(2, 3, 1));
        refused("row(2, 0, 101)", -1, w -> w.row(2, 0, 101));
        refused("row(2, 3, -1): -1 ahead of -14", -1, w -> w.row(2, 3, -1));
        refused("row(8, 0, -1): -1 ahead of -14", -1, w -> w.row(8, 0, -1));
        refused("row(2, 0, -1)", -14, w -> w.row(2, 0, -1));
        refused("row(1, 0, -1)", -14, w -> w.row(1, 0, -1));
        refused("row(4, 0, -1)", -14, w -> w.row(4, 0, -1));
        refused("put(8, 0, 5)", -1, w -> w.put(8, 0, 5));
        refused("put(4, 0, 5)", -11, w -> w.put(4, 0, 5));
        refused("put(1, 0, 5)", -12, w -> w.put(1, 0, 5));
        refused("put(2, 3, 5)", -13, w -> w.put(2, 3, 5));
        refused("put(2, -1, 5)", -13, w -> w.put(2, -1, 5));
        refused("put(5, 0, 5)", -13, w -> w.put(5, 0, 5));
        refused("element(8, 0)", 5000000001L, w -> elementOf(w, 8, 0));
        refused("element(8, -1)", 5000000001L, w -> elementOf(w, 8, -1));
        refused("element(4, 0)", 5000000002L, w -> elementOf(w, 4, 0));
        refused("element(1, 0)", 5000000002L, w -> elementOf(w, 1, 0));
        refused("element(2, 3)", 5000000002L, w -> elementOf(w, 2, 3));
        refused("copy(8, 0, 2, 0, 1)", -1, w -> w.copy(8, 0, 2, 0, 1));
        refused("copy(2, 0, 8, 0, 1)", -1, w -> w.copy(2, 0, 8, 0, 1));
        refused("copy(4, 0, 8, 0, 1): -1 ahead of -11", -1, w -> w.copy(4, 0, 8, 0, 1));
        refused("copy(4, 0, 2, 0, 1)", -11, w -> w.copy(4, 0, 2, 0, 1));
        refused("copy(2, 0, 4, 0, 1)", -11, w -> w.copy(2, 0, 4, 0, 1));
        refused("copy(1, 0, 4, 0, 1): -11 ahead of -12", -11, w -> w.copy(1, 0, 4, 0, 1));
        refused("copy(2, 0, 1, 0, 1)", -12, w -> w.copy(2, 0, 1, 0, 1));
        refused("copy(1, 0, 2, 0, 1)", -12, w -> w.copy(1, 0, 2, 0, 1));
        refused("copy(2, 0, 3, 0, 1)", -12, w -> w.copy(2, 0, 3, 0, 1));
        refused("copy(2, 0, 3, 0, -1): -12 ahead of -13", -12, w -> w.copy(2, 0, 3, 0, -1));
        refused("copy(2, 0, 2, 1, 3)", -13, w -> w.copy(2, 0, 2, 1, 3));
        refused("copy(2, 1, 2, 0, 3)", -13, w -> w.copy(2, 1, 2, 0, 3));
        refused("copy(2, 0, 2, 1, -1)", -13, w -> w.copy(2, 0, 2, 1, -1));
        refused("words(8)", -1, w -> w.words(8));
        refused("words(4)", -11, w -> w.words(4));
        refused("words(2)", -12, w -> w.words(2));
        refused("toss(8)", -1, w -> w.toss(8));
        refused("toss(4)", -11, w -> w.toss(4));
        refused("toss(2)", -12, w -> w.toss(2));
        refused("toss(1)", -15, w -> w.toss(1));
    }

    /** Without pieces, or without carts. */
    private static void asThingsStand() {
        refused("go(1)", -3, w -> w.go(1));
        refused("go(0): -1 ahead of -3", -1, w -> w.go(0));
        refused("run(2, 0)", -3, w -> w.run(2, 0));
        refused("run(3, 0): -13 ahead of -3", -13, w -> w.run(3, 0));
        refused("run(1, 0): -12 ahead of -3", -12, w -> w.run(1, 0));
        refused("run(4, 0): -11 ahead of -3", -11, w -> w.run(4, 0));
        refused("run(2, 5): -1 ahead of -3", -1, w -> w.run(2, 5));
        for (int what = 0; what <= 1; what++) {
            int asked = what;
            refused("best(" + what + ")", -3, w -> w.best(asked));
            refused("more(" + what + ")", -3, w -> w.more(asked));
            refused("hours(" + what + ")", -3, w -> w.hours(asked));
        }
        refused("best(2): -1 ahead of -3", -1, w -> w.best(2));
        refused("more(2): -1 ahead of -3", -1, w -> w.more(2));
        refused("hours(2): -1 ahead of -3", -1, w -> w.hours(2));
        refused("fit(5, 0): -13 ahead of -3", -13, w -> w.fit(5, 0));
        refused("fit(6, 0): -13 ahead of -3", -13, w -> w.fit(6, 0));
        refused("fit(2, 0): -12 ahead of -3", -12, w -> w.fit(2, 0));
        refused("fit(4, 0): -11 ahead of -3", -11, w -> w.fit(4, 0));
        refused("fit(6, 10): -1 ahead of -3", -1, w -> w.fit(6, 10));
        refused("shortest()", -3, w -> w.shortest());
        refused("heard(0)", -1000000003, w -> w.heard(0));
        refused("heard(10): -1 ahead of -3", -1000000001, w -> w.heard(10));
        refused("days(1, 1, 1)", -3, w -> w.days(1, 1, 1));
        refused("days(6, 1, 1): -1 ahead of -3", -1, w -> w.days(6, 1, 1));
        refused("ever(3): -1 ahead of -3", -1, w -> w.ever(3));
        refused("stubborn(3): -1 ahead of -3", -1000000001, w -> w.stubborn(3));
        refused("met(0, 3): -1 ahead of -3", -1, w -> w.met(0, 3));
        refused("met(1, 1): -1 ahead of -3", -1, w -> w.met(1, 1));
        refused("judge(3, 2): -1 ahead of -3", -1, w -> w.judge(3, 2));
        refused("yields(0, 1, 3): -1 ahead of -3", -1, w -> w.yields(0, 1, 3));
        refused("restore()", -3, w -> w.restore());
    }

    private static void ofWhatEnded() {
        refused("go(1)", -3, w -> w.go(1));
        refused("go(200)", -3, w -> w.go(200));
        refused("go(0): -1 ahead of -3", -1, w -> w.go(0));
        refused("enters(0): done", -3, w -> w.enters(0));
        refused("yields(0, 1, 0): done", -3, w -> w.yields(0, 1, 0));
        for (Refused r : REFUSED) due.is(r.name + ", it ended", r.call.on(ended()), r.want);
        // a cart, but no pieces
        due.is("ever(0) without pieces", Due.of("u0 1;").ever(0), -3);
        due.is("stubborn(0) without pieces", Due.of("u0 1;").stubborn(0), -1000000003);
        due.is("met(0, 1) without pieces", Due.of("u0 1;d0 1;").met(0, 1), -3);
        due.is("judge(0, 0) without pieces", Due.of("u0 1;").judge(0, 0), -3);
        due.is("judge(0, 4) without pieces: -11 ahead of -3", Due.of("u0 1;").judge(0, 4), -11);
        due.is("enters(0) without pieces", Due.of("u0 1;").enters(0), -3);
        due.is("yields(0, 1, 0) without pieces", Due.of("u0 1;d0 1;").yields(0, 1, 0), -3);
    }

    private static void noImage() {
        WhoBacks w = Due.of("p3;u0 1;");
        w.go(2);
        due.is("restore() of none", w.restore(), -3);
        due.is("nothing changed", w.where(0, 0), 2);
        due.is("nothing changed", w.state(0), 2);
        w.image();
        due.is("there is one now", w.restore(), 2);
        due.is("and it stays", w.restore(), 2);
    }
}
