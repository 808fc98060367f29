/** Section 4 of the document (but rows and the image) and promises 16 to 26, sentence by sentence; costs worked out by hand, but where told. */
public final class EdgesInMind {
    private static final Due due = new Due();
    private static final int[] FAR = { Integer.MIN_VALUE, Integer.MAX_VALUE };

    public static void main(String[] args) {
        late();
        run();
        everLate();
        bestLateness();
        moreRoom();
        fit();
        shortest();
        hours();
        stubborn();
        heard();
        days();
        met();
        allIsAsItIsNow();
        noLatenessStays();
        due.end("EdgesInMind");
    }

    private static WhoBacks noPieces() { return Due.of("u0 1;d0 1;"); }

    private static WhoBacks noCarts() { return Due.of("p3;"); }

    private static int runLate(WhoBacks w, int what, int... late) {
        Due.ints(w, 6, late);
        return w.run(6, what);
    }

    private static void late() {
        due.about("LATE: CART k starts n MINUTES later than told.");
        WhoBacks w = Due.of("p2;u199 0;");
        due.is("on time", runLate(w, 3, 0), 201);
        due.is("late by 1", runLate(w, 3, 1), 202);
        due.is("late by 200", runLate(w, 3, 200), 401);
        w = Due.of("p2;u0 0;u50 0;");
        due.is("cart 1 late by 7", runLate(w, 3, 0, 7), 59);
        due.is("cart 0 late by 60", runLate(w, 3, 60, 0), 62);
        due.is("told is told: START stays", w.cart(0, 1), 0);
    }

    private static void run() {
        due.about("`int run(int d, int what)`: A RUN, each CART late by what the ROW in SHELF d tells (0 .. 200 each; what lacks 0): COST (what 0), BACKED (1), WAITED (2), the MINUTE of its END (3), 1 if it STANDS (4). -1, -11, -12 (no ROW), -13 (a number out of range), -3 (no PIECES, no CARTS).");
        // see EdgesOfMinutes: three steps back, one minute waited; cart 1 is done in minute 6, cart 0 in minute 12
        WhoBacks w = Due.of("p3;p3;x0 10;u0 1;d0 1w9;");
        int[] onTime = { 4, 3, 1, 13, 0 };
        int[] stands = { 1120, 0, 120, 61, 1 };
        for (int what = 0; what <= 4; what++) {
            due.is("on time, " + what, runLate(w, what), onTime[what]);
            due.is("on time, told so, " + what, runLate(w, what, 0, 0), onTime[what]);
            due.is("it stands, " + what, runLate(Due.of("p3;u0 0;d0 0;"), what), stands[what]);
        }
        due.is("what lacks: 0", runLate(Due.of("p2;u0 0;u50 0;"), 3, 60), 62);
        due.is("what lacks: 0, whatever stood on the shelf", runLate(Due.of("p2;u0 0;u50 0;"), 3), 52);
        w = Due.of("p2;u0 0;u50 0;");
        runLate(w, 3, 9, 100);
        due.is("what lacks: 0, not what the row before told", runLate(w, 3, 9), 52);
        for (int sort = 0; sort <= 2; sort++) {
            w.row(5, sort, 2);
            w.put(5, 1, 127);
            due.is("a row of sort " + sort, w.run(5, 3), 50 + 127 + 2);
            w.put(5, 1, 200);
            // 200 is below 0 as a byte
            due.is("200 in a row of sort " + sort, w.run(5, 3), sort == 0 ? -13 : 252);
            w.put(5, 1, 201);
            due.is("201 in a row of sort " + sort, w.run(5, 3), -13);
            w.put(5, 1, -1);
            due.is("-1 in a row of sort " + sort, w.run(5, 3), -13);
            w.put(5, 1, 0);
            w.put(5, 0, 201);
            due.is("201 for cart 0, sort " + sort, w.run(5, 3), -13);
        }
        int[] many = new int[100];
        many[1] = 7;
        due.is("a row of 100", runLate(w, 3, many), 59);
        due.is("run(6, -1)", w.run(6, -1), -1);
        due.is("run(6, 5)", w.run(6, 5), -1);
        for (int far : FAR) due.is("run(6, " + far + ")", w.run(6, far), -1);
        for (int d : new int[] { -1, 8, Integer.MIN_VALUE, Integer.MAX_VALUE }) due.is("run(" + d + ", 0)", w.run(d, 0), -1);
        due.is("by nothing", w.run(4, 0), -11);
        due.is("-1 goes ahead of -11", w.run(4, 5), -1);
        w.keep(4, 1, 0, 0);
        due.is("by a rule", w.run(4, 0), -12);
        due.is("-1 goes ahead of -12", w.run(4, -1), -1);
        for (WhoBacks none : new WhoBacks[] { noPieces(), noCarts(), new WhoBacks() }) {
            due.is("of none, by nothing", none.run(4, 0), -11);
            none.keep(4, 1, 0, 0);
            due.is("of none, by a rule", none.run(4, 0), -12);
            due.is("of none, out of range", runLate(none, 0, 201), -13);
            due.is("of none", runLate(none, 0, 200), -3);
            due.is("of none, no lateness", runLate(none, 0), -3);
        }
    }

    private static void everLate() {
        due.about("STANDS EVER by a CART: the least n (0 .. 40) at which a RUN STANDS; -4.");
        WhoBacks w = Due.of("p3;u0 0;d3 0;");
        due.is("cart 0 late by 3 stands, by 2 doesn't", runLate(w, 4, 3) * 10 + runLate(w, 4, 2), 10);
        due.is("cart 0 late by 4 stands, too", runLate(w, 4, 4), 1);
        due.is("the least", w.ever(0), 3);
        due.is("never by the other", w.ever(1), -4);
        due.is("0", Due.of("p3;u0 0;d0 0;").ever(1), 0);
        due.is("1", Due.of("p3;u0 0;d1 0;").ever(0), 1);
        due.is("40", Due.of("p3;u0 0;d40 0;").ever(0), 40);
        due.is("41 is too late", Due.of("p3;u0 0;d41 0;").ever(0), -4);
        w = Due.of("p3;u0 0;d3 0;");
        Due.rule(w, 0, 4, 0);
        due.is("never by a bell", w.ever(0), -4);
        due.about("STANDS EVER: the others on time.");
        // cart 2 is cart 1's match at 3, whichever is late
        w = Due.of("p3;u50 0;u0 0;d3 0;");
        due.is("cart 0 alone is late", w.ever(0), -4);
        due.is("cart 1 alone is late", w.ever(1), 3);
        due.is("cart 0 again: nothing of cart 1's lateness", w.ever(0), -4);
        due.about("`int ever(int cart)`: STANDS EVER by a CART; -4. -1; -3 (no PIECES).");
        for (int wrong : new int[] { -1, 3, 7, Integer.MIN_VALUE, Integer.MAX_VALUE }) due.is("ever(" + wrong + ")", w.ever(wrong), -1);
        due.is("no pieces", noPieces().ever(0), -3);
        due.is("no pieces, no such cart", noPieces().ever(2), -1);
        due.is("no carts", noCarts().ever(0), -1);
        due.is("neither", new WhoBacks().ever(0), -1);
    }

    private static void bestOf(String text, int digits, int cost) {
        WhoBacks w = Due.of(text);
        due.is("best(0) of " + text, w.best(0), digits);
        due.is("best(1) of " + text, w.best(1), cost);
    }

    private static void bestLateness() {
        due.about("BEST LATENESS: of the first four CARTS (fewer, if there are) with 0, 5, 10, 15 MINUTES each the RUN of least COST: as digits (0 .. 3) to the base 4, CART 0 the lowest; of several the least.");
        bestOf("p2;u0 0;", 0, 0);
        // by hours of 10 minutes one that comes down at 0 waits till 10, at 5 till 10
        bestOf("p2;x0 30;d5 0;", 1, 0);
        bestOf("p2;x0 30;d0 0;", 2, 0);
        bestOf("p2;x0 31;d5 0;", 3, 0);
        bestOf("p2;x0 31;d4 0;", 3, 1);
        bestOf("p2;x0 30;u0 0;d5 0;", 4, 0);
        bestOf("p2;x0 31;u0 0;d5 0;", 12, 0);
        bestOf("p2;x0 30;u0 0;u3 0;d0 0;", 2 * 16, 0);
        bestOf("p2;x0 30;u0 0;u3 0;u6 0;d0 0;", 2 * 64, 0);
        bestOf("p2;x0 31;u0 0;u3 0;u6 0;d5 0;", 3 * 64, 0);
        // a fifth cart isn't late: it waits from 0 to 9
        bestOf("p2;x0 30;u0 0;u2 0;u4 0;u6 0;d0 0;", 0, 10);
        bestOf("p2;x0 30;d5 0;d105 0;d20 0;d120 0;", 1 + 4 + 2 * 16 + 2 * 64, 0);
        // two at once: the second would wait for the first
        bestOf("p2;u0 0;u0 0;", 1, 0);
        bestOf("p2;u0 0;d0 0;", 1, 0);
        due.about("`int best(int what)`: BEST LATENESS: the digits (what 0), COST (1). -1; -3 (no PIECES, no CARTS).");
        for (int wrong : new int[] { -1, 2, Integer.MIN_VALUE, Integer.MAX_VALUE }) {
            due.is("best(" + wrong + ")", Due.of("p2;u0 0;").best(wrong), -1);
            due.is("-1 goes ahead of -3", noCarts().best(wrong), -1);
        }
        for (int what = 0; what <= 1; what++) {
            due.is("no pieces", noPieces().best(what), -3);
            due.is("no carts", noCarts().best(what), -3);
        }
    }

    private static void moreOf(String text, int place, int cost) {
        WhoBacks w = Due.of(text);
        due.is("more(0) of " + text, w.more(0), place);
        due.is("more(1) of " + text, w.more(1), cost);
    }

    private static void moreRoom() {
        due.about("MORE ROOM: the PLACE (not the first, last, none of ROOM 4) where one more of ROOM makes the COST of a RUN least; of several the least; -4 there is none.");
        moreOf("p2;u0 0;", -4, -4);
        moreOf("p2;p2;u0 0;", 1, 0);
        moreOf("p2;p2;r1 3;u0 0;", 1, 0);
        moreOf("p2;p2;r1 4;u0 0;", -4, -4);
        moreOf("p2;p2;p2;r1 4;r2 4;u0 0;", -4, -4);
        moreOf("p2;p2;p2;r1 4;u0 0;", 2, 0);
        moreOf("p2;p2;p2;r2 4;u0 0;", 1, 0);
        moreOf("p2;p2;p2;u0 0;", 1, 0);
        for (int place = 1; place <= 7; place++) moreOf("p2;".repeat(8) + "r" + place + " 0;u0 0;", place, 0);
        moreOf("p2;p2;p2;r1 0;r2 0;u0 0;", 1, 1060);
        // two that would stand at place 1 pass there
        moreOf("p2;p2;u0 0;d0 0;", 1, 0);
        moreOf("p3;p3;x0 10;u0 1;d2 1w9;", 1, 2);
        WhoBacks w = Due.of("p2;p2;p2;r1 0;u0 0;");
        w.more(0);
        w.more(1);
        due.is("in mind alone", w.room(1), 0);
        due.about("`int more(int what)`: MORE ROOM: the PLACE (what 0), COST then (1); -4. -1; -3 (no PIECES, no CARTS).");
        for (int wrong : new int[] { -1, 2, Integer.MIN_VALUE, Integer.MAX_VALUE }) {
            due.is("more(" + wrong + ")", Due.of("p2;p2;u0 0;").more(wrong), -1);
            due.is("-1 goes ahead of -3", noPieces().more(wrong), -1);
        }
        for (int what = 0; what <= 1; what++) {
            due.is("no pieces", noPieces().more(what), -3);
            due.is("no carts", Due.of("p3;p3;").more(what), -3);
        }
    }

    private static int fitOf(WhoBacks w, int figure, int... kinds) {
        w.row(6, 0, kinds.length);
        for (int i = 0; i < kinds.length; i++) w.put(6, i, kinds[i]);
        return w.fit(6, figure);
    }

    private static void fit() {
        due.about("FIT: of a ROW of KINDS with a FIGURE (the RULE of all VILLAGES) the first by which a RUN has least COST.");
        // neither can back: 1120 by RULE, 10 by HOUR 0, 2 by BELL and BEST
        WhoBacks w = Due.of("p3;u0 0;d0 0;");
        due.is("one alone", fitOf(w, 0, 0), 0);
        due.is("one alone, though a RULE would cost less", fitOf(Due.of("p2;d0 0;"), 0, 3), 0);
        due.is("the second", fitOf(w, 0, 0, 3), 1);
        due.is("the third", fitOf(w, 0, 0, 3, 4), 2);
        due.is("the first of several", fitOf(w, 0, 3, 5, 4, 5, 4), 1);
        due.is("the first of all alike", fitOf(w, 0, 0, 1, 2, 6, 7), 0);
        int[] many = new int[100];
        many[99] = 4;
        due.is("the last of 100", fitOf(w, 0, many), 99);
        // by HOUR 9 the one that comes down at 95 waits for 5 minutes: it would stand, did cart 0 not step at 60
        WhoBacks hour = Due.of("p2;u60 0;d95 0;");
        due.is("by FIGURE 9", fitOf(hour, 9, 3, 0), 1);
        due.is("by FIGURE 8", fitOf(hour, 8, 3, 0), 0);
        // of all villages: the only piece is of village v, which waits for hours as it is
        for (int v = 0; v < 3; v++) due.is("village " + v + ", too", fitOf(Due.of("p2;v0 " + v + ";x" + v + " 30;d0 0;"), 0, 3, 0), 1);
        due.about("`int fit(int d, int figure)`: FIT by the ROW of bytes in SHELF d: the place. -1, -11, -12 (no ROW of bytes), -13: none, or one that is no KIND; -3 (no PIECES, no CARTS).");
        due.is("none", fitOf(w, 0), -13);
        for (int wrong : new int[] { -1, 8, 127, -128 }) {
            due.is("no KIND: " + wrong, fitOf(w, 0, wrong), -13);
            due.is("no KIND at the end: " + wrong, fitOf(w, 0, 0, 7, wrong), -13);
        }
        many[99] = 8;
        due.is("no KIND at the end of 100", fitOf(w, 0, many), -13);
        due.is("lowest bits alone", fitOf(w, 0, 256, 260), 1);
        fitOf(w, 0, 0, 7);
        for (int wrong : new int[] { -1, 10, Integer.MIN_VALUE, Integer.MAX_VALUE }) due.is("fit(6, " + wrong + ")", w.fit(6, wrong), -1);
        for (int wrong : new int[] { -1, 8, Integer.MIN_VALUE, Integer.MAX_VALUE }) due.is("fit(" + wrong + ", 0)", w.fit(wrong, 0), -1);
        due.is("by nothing", w.fit(4, 0), -11);
        due.is("-1 goes ahead of -11", w.fit(4, 10), -1);
        for (int sort = 1; sort <= 2; sort++) {
            w.row(4, sort, 1);
            due.is("by a row of sort " + sort, w.fit(4, 0), -12);
            w.row(4, sort, 0);
            due.is("-12 goes ahead of -13", w.fit(4, 0), -12);
        }
        w.row(4, 0, 1);
        w.keep(4, 1, 0, 0);
        due.is("by a rule", w.fit(4, 0), -12);
        for (WhoBacks none : new WhoBacks[] { noPieces(), noCarts(), new WhoBacks() }) {
            due.is("of none, by nothing", none.fit(4, 0), -11);
            none.row(4, 1, 1);
            due.is("of none, by shorts", none.fit(4, 0), -12);
            due.is("of none, no kinds", fitOf(none, 0), -13);
            due.is("of none, no KIND", fitOf(none, 0, 8), -13);
            due.is("of none", fitOf(none, 0, 0), -3);
        }
    }

    private static void shortest() {
        due.about("SHORTEST: of all KINDS and FIGURES 0 .. 4 (the RULE of all VILLAGES) the one of fewest WORDS by which a RUN doesn't STAND (of several the least KIND, then FIGURE): 10 times KIND and FIGURE; -4.");
        due.is("RULE, though HOUR 0 has 2 WORDS, too", Due.of("p2;u0 0;").shortest(), 0);
        due.is("HOUR 0 has 2", Due.of("p3;u0 0;d0 0;").shortest(), 30);
        // by hours of 10 cart 1 comes down at 10 and finds cart 0 at 5, by hours of 20 at 20
        due.is("HOUR 1 has 3", Due.of("p8;u6 0;d0 0;").shortest(), 31);
        // by hours of 20 cart 0 comes down at 20 and finds cart 1 at 6; a BELL has 4, too
        due.is("HOUR 2 has 4", Due.of("p9;d15 0;u15 0;").shortest(), 32);
        // a BELL lets both come to place 1, hours up to 30 let both in; neither can back
        due.is("HOUR 3 has 5", Due.of("p9;p7;d14 0l;u18 0;").shortest(), 33);
        // the same, and only hours of 60 would help: FIGURE 5
        due.is("no FIGURE above 4", Due.of("p6;p9;p9;u29 0;d20 0;").shortest(), -4);
        WhoBacks w = Due.of("p6;p9;p9;x0 35;u29 0;d20 0;");
        due.is("HOUR 5 would do", runLate(w, 4), 0);
        due.is("a place without room", Due.of("p2;p2;r1 0;u0 0;").shortest(), -4);
        for (int v = 0; v < 3; v++) due.is("village " + v + ", too", Due.of("p3;v0 " + v + ";x" + v + " 40;u0 0;d0 0;").shortest(), 30);
        // found by a search, not by hand: several of 5 or 6 WORDS
        due.is("SORTED has 5", Due.of("p9h2;p6;p9h2;p6;d9 1;u3 2w8;u8 0;").shortest(), 10);
        due.is("NEAR has 6", Due.of("p9h1;p9h2;p2;p6;d11 1w3;u12 1l;u17 0w0;u19 2;d14 1l;").shortest(), 20);
        due.is("HOUR 4 has 6", Due.of("p7h1;p2;p9;d11 0;u17 0l;").shortest(), 34);
        due.is("BELL 0 has 4", Due.of("p9h2;p9;d9 0l;u19 0w7;").shortest(), 40);
        due.is("BEST 0 has 13", Due.of("p8h1;p8;p6;p8;r1 3;d19 0l;u16 0l;u18 2l;").shortest(), 50);
        due.is("HILLED has 5", Due.of("p2;p8;p9;p8;u19 1;d9 1;d3 1l;d12 0;").shortest(), 70);
        due.about("`int shortest()`: SHORTEST; -4. -3 (no PIECES, no CARTS).");
        due.is("no pieces", noPieces().shortest(), -3);
        due.is("no carts", noCarts().shortest(), -3);
        due.is("neither", new WhoBacks().shortest(), -3);
    }

    private static void hours() {
        due.about("HOURS: the FIGURE of an HOUR (all VILLAGES) with least COST; of several the least.");
        WhoBacks w = Due.of("p2;u0 0;");
        due.is("any FIGURE: the least", w.hours(0), 0);
        due.is("no cost", w.hours(1), 0);
        for (int figure = 1; figure <= 9; figure++) {
            // up at 9 before the end of its spell; of shorter spells: found by trying all, below
            int start = 10 * (figure + 1) - 1;
            int least = 0;
            while (start / (10 * (least + 1)) % 2 != 0) least++;
            due.is("one up at " + start, Due.of("p2;u" + start + " 0;").hours(0), least);
        }
        // every spell below 100 minutes stops one of them
        w = Due.of("p2;u65 0;u95 0;");
        due.is("FIGURE 9", w.hours(0), 9);
        due.is("its cost", w.hours(1), 0);
        w = Due.of("p2;d0 0;");
        due.is("down at 0", w.hours(0), 0);
        due.is("it waits 10 minutes at least", w.hours(1), 10);
        for (int v = 0; v < 3; v++) due.is("village " + v + ", too", Due.of("p2;v0 " + v + ";d0 0;").hours(1), 10);
        due.about("`int hours(int what)`: HOURS: the FIGURE (what 0), COST (1). -1; -3 (no PIECES, no CARTS).");
        for (int wrong : new int[] { -1, 2, Integer.MIN_VALUE, Integer.MAX_VALUE }) {
            due.is("hours(" + wrong + ")", w.hours(wrong), -1);
            due.is("-1 goes ahead of -3", noPieces().hours(wrong), -1);
        }
        for (int what = 0; what <= 1; what++) {
            due.is("no pieces", noPieces().hours(what), -3);
            due.is("no carts", noCarts().hours(what), -3);
        }
    }

    private static void stubborn() {
        due.about("STUBBORN: COST, if a CART couldn't back, less as it is.");
        WhoBacks w = Due.of("p4;u0 1;d0 0;");
        due.is("then both stand: 1121 less 3", w.stubborn(0), 1118);
        due.is("it can't as it is", w.stubborn(1), 0);
        due.is("in mind alone", w.cart(0, 3), 1);
        // cart 1 backs five steps of 3 minutes: 5 and 1 and 9; if it couldn't, cart 0 would back three: 3 and 1
        w = Due.of("p9;u3 1;d0 3;");
        due.is("as it is", runLate(w, 0), 15);
        due.is("below 0", w.stubborn(1), -11);
        due.is("the other isn't told anyway", w.stubborn(0), 0);
        due.about("`int stubborn(int cart)`: STUBBORN (may be below 0). -1000000001; -1000000003 (no PIECES).");
        for (int wrong : new int[] { -1, 2, 7, Integer.MIN_VALUE, Integer.MAX_VALUE }) due.is("stubborn(" + wrong + ")", w.stubborn(wrong), -1000000001);
        due.is("no pieces", noPieces().stubborn(0), -1000000003);
        due.is("no pieces, no such cart", noPieces().stubborn(2), -1000000001);
        due.is("no carts", noCarts().stubborn(0), -1000000001);
    }

    private static void heard() {
        due.about("HEARD: COST by a BELL with FIGURE 0 (all VILLAGES) less that with FIGURE n.");
        // FIGURE 0: cart 1 enters in minute 4 and both stand from minute 8 on: 63 and 60; FIGURE 1: from minute 5 on: 60 and 61
        WhoBacks w = Due.of("p3;p5;u2 0;d4 0;");
        due.is("FIGURE 1", w.heard(1), 1123 - 1121);
        due.is("FIGURE 0", w.heard(0), 0);
        Due.rule(w, 0, 3, 9);
        due.is("whatever rules there are", w.heard(1), 2);
        for (int v = 0; v < 3; v++) due.is("village " + v + ", too", Due.of("p3;v0 " + v + ";x" + v + " 39;d0 0;u1 0;d1 0;").heard(1), 3 - 1124);
        // below 0: see PromisesInMind
        w = Due.of("p3;d0 0;u1 0;d1 0;");
        for (int n = 1; n <= 9; n++) due.is("below 0 with " + n, w.heard(n), 3 - 1124);
        due.about("`int heard(int n)`: HEARD with n (0 .. 9; may be below 0). -1000000001; -1000000003 (no PIECES, no CARTS).");
        for (int wrong : new int[] { -1, 10, Integer.MIN_VALUE, Integer.MAX_VALUE }) {
            due.is("heard(" + wrong + ")", w.heard(wrong), -1000000001);
            due.is("-1 goes ahead of -3", noPieces().heard(wrong), -1000000001);
        }
        due.is("no pieces", noPieces().heard(9), -1000000003);
        due.is("no carts", noCarts().heard(0), -1000000003);
    }

    private static void days() {
        due.about("A DAY by a seed z: each CART by numbers starts a DRAW below n later (z becomes z times 1103515245 plus 12345 (an int); a DRAW is (z without its sign's bit over 65536, cut) modulo n).");
        WhoBacks w = Due.of("p3;p4;x0 10;u0 1w3;d2 1;u5 2l;d9 1w1;u11 3;d12 1;u20 1;");
        for (int z : new int[] { 0, 1, -1, 2, 12345, -65536, Integer.MAX_VALUE, Integer.MIN_VALUE, 1103515245 }) {
            for (int n : new int[] { 1, 2, 7, 59, 60 }) {
                int[] draws = new int[7];
                long seed = z;
                for (int k = 0; k < 7; k++) {
                    seed = (seed * 1103515245L + 12345) & 0xffffffffL;
                    draws[k] = (int) (seed % 0x80000000L / 65536 % n);
                }
                due.is("days(1, " + n + ", " + z + ")", w.days(1, n, z), runLate(w, 0, draws));
            }
        }
        // by hours of 10 minutes one down waits till the next odd hour; the seeds 0, 1, 2, 3, 7 draw 0, 38, 8, 47, 4
        WhoBacks one = Due.of("p2;x0 30;d0 0;");
        int[][] waits = { { 0, 10 }, { 1, 0 }, { 2, 2 }, { 3, 3 }, { 7, 6 } };
        for (int[] seed : waits) due.is("seed " + seed[0], one.days(1, 60, seed[0]), seed[1]);
        due.is("seeds 0 to 3", one.days(4, 60, 0), 15);
        due.about("`int days(int m, int n, int z)`: COST over m (1 .. 5) DAYS with z, z and 1, .., late by less than n (1 .. 60). -1; -3 (no PIECES, no CARTS).");
        for (int z : new int[] { 0, 77, -3, Integer.MAX_VALUE, Integer.MAX_VALUE - 2 }) {
            int sum = 0;
            for (int m = 1; m <= 5; m++) {
                sum += w.days(1, 60, z + m - 1);
                due.is("days(" + m + ", 60, " + z + ")", w.days(m, 60, z), sum);
            }
        }
        due.is("1000 for each day that stands", Due.of("p3;u0 0;d0 0;").days(5, 1, 9), 5 * 1120);
        for (int wrong : new int[] { -1, 0, 6, Integer.MIN_VALUE, Integer.MAX_VALUE }) due.is("days(" + wrong + ", 1, 1)", w.days(wrong, 1, 1), -1);
        for (int wrong : new int[] { -1, 0, 61, Integer.MIN_VALUE, Integer.MAX_VALUE }) {
            due.is("days(1, " + wrong + ", 1)", w.days(1, wrong, 1), -1);
            due.is("-1 goes ahead of -3", noCarts().days(1, wrong, 1), -1);
        }
        due.is("no pieces", noPieces().days(1, 1, 1), -3);
        due.is("no carts", noCarts().days(5, 60, 1), -3);
    }

    private static void met() {
        due.about("MET: in a RUN the MINUTE at which two told CARTS first MEET; -4.");
        // cart 1 comes to 3 in minute 0, and meets cart 0 at 2 in minute 1
        WhoBacks w = Due.behind("p4;u0 0;d0 0;", 30);
        due.is("the first time, not the last", w.met(0, 1), 1);
        due.is("both before a place without room: never", Due.of("p3;p2;r1 0;u0 0;d0 0;").met(0, 1), -4);
        // three against one: see EdgesOfMinutes
        w = Due.of("p6;d0 1;u0 1;u0 1;");
        due.is("one of them", w.met(0, 1), 2);
        due.is("the other, later", w.met(0, 2), 6);
        due.is("of the same way: never", w.met(1, 2), -4);
        // cart 2 comes when all others are done
        w = Due.of("p4;u0 1;d0 1;d50 1;");
        due.is("they meet", w.met(0, 1), 1);
        due.is("they don't", w.met(0, 2), -4);
        due.is("another one meets", w.met(2, 1), -4);
        due.is("another one meets", w.met(1, 2), -4);
        due.is("another one is met", w.met(2, 0), -4);
        due.about("MET: whichever of both meets.");
        // cart 1 meets cart 0; the other way round cart 0 meets cart 1
        for (String text : new String[] { "p4;u0 1;d0 1;", "p4;d0 1;u0 1;", "p5;u0 1;d0 1;", "p5;d0 1;u0 1;" }) {
            w = Due.of(text);
            int minute = text.startsWith("p4") ? 1 : 2;
            due.is(text + " met(0, 1)", w.met(0, 1), minute);
            due.is(text + " met(1, 0)", w.met(1, 0), minute);
        }
        due.about("`int met(int a, int b)`: MET; -4. -1 (one twice, too); -3 (no PIECES).");
        due.is("one twice", w.met(1, 1), -1);
        for (int wrong : new int[] { -1, 2, 7, Integer.MIN_VALUE, Integer.MAX_VALUE }) {
            due.is("met(" + wrong + ", 0)", w.met(wrong, 0), -1);
            due.is("met(0, " + wrong + ")", w.met(0, wrong), -1);
            due.is("no pieces, met(0, " + wrong + ")", noPieces().met(0, wrong), -1);
        }
        due.is("no pieces", noPieces().met(0, 1), -3);
        due.is("no pieces, one twice", noPieces().met(1, 1), -1);
        due.is("no carts", noCarts().met(0, 1), -1);
    }

    /** What was told since the road came (a rule, BACKS, the image) counts in each of these calls. */
    private static void allIsAsItIsNow() {
        due.about("A RUN (in mind) goes from MINUTE 0 on (all CARTS AHEAD) to its END");
        WhoBacks w = Due.of("p4;u0 1;d0 0;");
        w.backs(0, 0);
        due.is("run", runLate(w, 0), 1121);
        w.backs(0, 1);
        due.is("run", runLate(w, 0), 3);
        w.backs(1, 1);
        due.is("stubborn", w.stubborn(0), 0);
        w.backs(1, 0);
        due.is("stubborn", w.stubborn(0), 1118);
        w.backs(0, 0);
        due.is("ever", w.ever(0), 0);
        w.backs(0, 1);
        due.is("ever", w.ever(0), -4);
        w = Due.of("p3;u0 0;d0 0;");
        due.is("fit", fitOf(w, 0, 0, 4), 1);
        w.backs(1, 1);
        due.is("fit: 2 by either", fitOf(w, 0, 0, 4), 0);
        w.backs(1, 0);
        due.is("shortest", w.shortest(), 30);
        w.backs(1, 1);
        due.is("shortest", w.shortest(), 0);
        // by hours of 10 both are in and meet at 5 and 6: three steps back, two minutes waited, if cart 1 can; by hours of 20 it waits 10
        w = Due.of("p9;u9 0;d10 0;");
        due.is("hours", w.hours(0) * 100 + w.hours(1), 110);
        w.backs(1, 1);
        due.is("hours", w.hours(0) * 100 + w.hours(1), 5);
        w = Due.of("p2;p2;d0 0;");
        due.is("more", w.more(1), 0);
        Due.rule(w, 0, 3, 0);
        due.is("more", w.more(1), 10);
        due.is("best", w.best(0), 2);
        Due.rule(w, 0, 0, 0);
        due.is("best", w.best(0), 0);
        due.is("days", w.days(1, 1, 0), 0);
        Due.rule(w, 0, 3, 0);
        due.is("days", w.days(1, 1, 0), 10);
        w = Due.of("p4;u0 0;d0 0;");
        due.is("met", w.met(0, 1), 1);
        Due.rule(w, 0, 4, 0);
        due.is("met", w.met(0, 1), -4);
        w = Due.of("p3;d0 0;u1 0;");
        w.image();
        Due.road(w, "d1 0;");
        due.is("heard", w.heard(1), 3 - 1124);
        w.restore();
        due.is("heard", w.heard(1), 0);
    }

    /** A run with lateness ahead of each call: they start as told. */
    private static void noLatenessStays() {
        due.about("LATE: CART k starts n MINUTES later than told.");
        WhoBacks w = Due.of("p2;x0 30;d0 0;d20 0;");
        for (int call = 0; call < 9; call++) {
            due.is("late", runLate(w, 0, 10, 10), 0);
            switch (call) {
                case 0: due.is("run", runLate(w, 0), 20); break;
                case 1: due.is("fit", fitOf(w, 0, 3, 0), 1); break;
                case 2: due.is("hours", w.hours(1), 20); break;
                case 3: due.is("stubborn", w.stubborn(0), 0); break;
                case 4: due.is("heard", w.heard(3), 0); break;
                case 5: due.is("days", w.days(1, 1, 5), 20); break;
                case 6: due.is("best", w.best(0), 2 + 4 * 2); break;
                case 7: due.is("shortest", w.shortest(), 0); break;
                default: due.is("go", w.go(200), 32); break;
            }
        }
        w = Due.of("p4;u0 1;d0 1;");
        due.is("late", runLate(w, 0, 50), 0);
        due.is("met", w.met(0, 1), 1);
        w = Due.of("p2;p2;x0 30;d0 0;");
        due.is("late", runLate(w, 0, 10), 0);
        due.is("more", w.more(1), 10);
        w = Due.of("p3;u0 0;d0 0;");
        due.is("late", runLate(w, 4, 50), 0);
        due.is("ever by the other", w.ever(1), 0);
        w = Due.of("p2;u0 0;");
        due.is("late", runLate(w, 3, 50), 52);
        Due.ints(w, 5, 1, -3);
        due.is("judge", w.judge(0, 5), -4);
    }
}
