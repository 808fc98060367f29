/** The rules of section 1, section 3, what it says in doubt, and promises 9 to 15, sentence by sentence; minutes gone through by hand. */
public final class EdgesOfMinutes {
    private static final Due due = new Due();

    public static void main(String[] args) {
        kinds();
        entersByRule();
        entersByHour();
        entersByBell();
        entersByBest();
        entersAsThoseAbove();
        backByKinds();
        backIfItCan();
        byNumbers();
        comesOn();
        minutesLeft();
        backing();
        oneBehindBacksToo();
        otherWayBehind();
        going();
        meeting();
        ruleOfThePiece();
        stands();
        ended();
        inDoubt();
        callGo();
        callsWhereAndState();
        callEnters();
        callYields();
        callJudge();
        due.end("EdgesOfMinutes");
    }

    // ---- rules

    private static void kinds() {
        due.about("RULES are of KINDS, with a FIGURE (0 .. 9): 0 RULE; 1 SORTED under RULE; 2 NEAR under RULE; 3 HOUR under RULE; 4 BELL under RULE; 5 BEST under BELL; 6 TOLD under SORTED; 7 HILLED under NEAR. They tell whether a CART at a PLACE ENTERS the PIECE ahead of it, and which of two that meet is to BACK:");
        WhoBacks w = new WhoBacks();
        for (int kind = -1; kind <= 8; kind++) {
            for (int figure = -1; figure <= 10; figure++) {
                boolean isRule = kind >= 0 && kind <= 7 && figure >= 0 && figure <= 9;
                due.is("keep of " + kind + " with " + figure, w.keep(0, 1, kind, figure), isRule ? 0 : -1);
            }
        }
        // the village of the piece ahead tells of entering: cart 0 is at place 1, cart 1 within the piece ahead
        w = Due.behind("p2;p4;v1 2;u0 1;d0 1;", 2);
        due.at("behind 2", w, 2, 4);
        Due.rule(w, 0, 4, 0);
        Due.rule(w, 1, 4, 0);
        due.is("no other village's", w.enters(0), 1);
        Due.rule(w, 2, 4, 0);
        due.is("that of the piece ahead", w.enters(0), 0);
    }

    private static void entersByRule() {
        due.about("ENTERS: RULE always.");
        WhoBacks w = Due.behind("p2;p4;v1 1;u0 1;d0 1;", 2);
        for (int figure = 0; figure <= 9; figure++) {
            Due.rule(w, 1, 0, figure);
            due.is("RULE with FIGURE " + figure, w.enters(0), 1);
        }
        // ROOM of the far place matters not
        due.is("a far place without room", Due.behind("p2;p2;p2;r2 0;u0 1;", 2).enters(0), 1);
    }

    private static void entersByHour() {
        due.about("HOUR: at its own end only (where it came onto the ROAD): UP where MINUTE by 10 times (FIGURE and 1), cut, is even, DOWN where it is odd; elsewhere always.");
        // carts 0 and 2 stand before place 1 without room, 1 and 3 at their ends behind them; cart 4 keeps all from standing for ever
        for (int figure = 0; figure <= 9; figure++) {
            WhoBacks w = Due.of("p2;p2;r1 0;u0 0;u0 0;d0 0;d0 0;u199 0;");
            w.go(1);
            Due.rule(w, 0, 3, figure);
            for (int minute = 1; minute <= 199;) {
                boolean even = minute / (10 * (figure + 1)) % 2 == 0;
                due.is("HOUR " + figure + ", UP at minute " + minute, w.enters(1), even ? 1 : 0);
                due.is("HOUR " + figure + ", DOWN at minute " + minute, w.enters(3), even ? 0 : 1);
                int next = minute % 10 == 9 ? 1 : 9 - minute % 10;
                minute = w.go(next) < 0 ? 999 : w.state(0);
            }
        }
        due.about("HOUR: MINUTE by (10 times (FIGURE and 1)).");
        due.ends("p2;x0 30;d0 0;", 12, 0, 10, 1, 0, 0);
        due.ends("p2;x0 34;d0 0;", 52, 0, 50, 1, 0, 0);
        due.ends("p2;x0 34;d45 0;", 52, 0, 5, 1, 0, 0);
        due.about("elsewhere always.");
        WhoBacks w = Due.behind("p9;p2;x0 30;u5 0;", 14);
        due.at("at the place between", w, 9);
        due.is("UP in an odd hour", w.enters(0), 1);
        w = Due.behind("p2;p9;x0 30;d12 0;", 21);
        due.at("at the place between", w, 2);
        due.is("DOWN in an even hour", w.enters(0), 1);
    }

    private static void entersByBell() {
        due.about("BELL: if no CART that goes the other way is within that PIECE (at none of its PLACES) or up to FIGURE SPOTS beyond it (its far PLACE's SPOT is the first of these).");
        for (int spot = 2; spot <= 13; spot++) {
            // cart 0 is at place 1 (spot 2), cart 1 at a spot above it; the piece ahead has spots 3 and 4, its far place is 5
            WhoBacks w = Due.behind("p2;p3;p9;r1 2;v1 1;u12 0;d" + spot + " 0;", 14);
            due.at("cart 1 above", w, 2, spot);
            for (int figure = 0; figure <= 9; figure++) {
                Due.rule(w, 1, 4, figure);
                due.is("UP, BELL " + figure + ", one at " + spot, w.enters(0), spot >= 3 && spot <= 4 + figure ? 0 : 1);
            }
            // the same from above: cart 0 at place 2 (spot 12), cart 1 at 14 less that spot; the piece ahead has 11 and 10, its far place is 9
            w = Due.behind("p9;p3;p2;r2 2;v1 1;d12 0;u" + spot + " 0;", 14);
            due.at("cart 1 below", w, 12, 14 - spot);
            for (int figure = 0; figure <= 9; figure++) {
                Due.rule(w, 1, 4, figure);
                due.is("DOWN, BELL " + figure + ", one at " + (14 - spot), w.enters(0), spot >= 3 && spot <= 4 + figure ? 0 : 1);
            }
        }
        // one that waits at the END, two spots beyond the far place; one at place 0 for those that come down
        WhoBacks up = Due.behind("p2;p3;p2;v1 1;v2 2;x2 39;u12 0;d10 0;", 14);
        due.at("cart 1 at the END", up, 2, 7);
        WhoBacks down = Due.behind("p2;p3;p2;v1 1;v0 2;x2 30;d12 0;u10 0;", 14);
        due.at("cart 1 at 0", down, 5, 0);
        for (int figure = 0; figure <= 9; figure++) {
            Due.rule(up, 1, 4, figure);
            due.is("UP, BELL " + figure + ", one at the END", up.enters(0), figure >= 3 ? 0 : 1);
            Due.rule(down, 1, 4, figure);
            due.is("DOWN, BELL " + figure + ", one at 0", down.enters(0), figure >= 3 ? 0 : 1);
        }
        // the last of eight pieces, and the first: cart 0 at the place before it, the other at its only spot, or not there yet
        for (int start = 13; start <= 14; start++) {
            WhoBacks last = Due.behind("p2;".repeat(8) + "v7 1;x1 40;u0 0;d" + start + " 0;", 14);
            due.at("before the last piece", last, 14, start == 13 ? 15 : -2);
            due.is("UP into the last piece", last.enters(0), start == 13 ? 0 : 1);
            WhoBacks first = Due.behind("p2;".repeat(8) + "v0 1;x1 40;d0 0;u" + start + " 0;", 14);
            due.at("before the first piece", first, 2, start == 13 ? 1 : -2);
            due.is("DOWN into the first piece", first.enters(0), start == 13 ? 0 : 1);
        }
        // one of the own way is not heard, within the piece and at the far place
        WhoBacks w = Due.behind("p2;p3;p2;v1 1;u0 0;u2 0;", 4);
        due.at("cart 0 ahead of cart 1", w, 4, 2);
        Due.rule(w, 1, 4, 9);
        due.is("the own way", w.enters(1), 1);
        due.about("BELL with FIGURE 0 hears no one at the far PLACE; BACKING ones are heard.");
        w = Due.behind("p2;p3;p2;v1 1;u12 0;d12 0;", 14);
        due.at("cart 1 at the far place", w, 2, 5);
        Due.rule(w, 1, 4, 0);
        due.is("FIGURE 0, one at the far place", w.enters(0), 1);
        Due.rule(w, 1, 4, 1);
        due.is("FIGURE 1, one at the far place", w.enters(0), 0);
        // carts 0 and 1 met within piece 1, cart 1 is backing at 5; cart 2 came to place 1
        w = Due.behind("p2;p6;v1 1;u0 1;d0 1;u2 1;", 4);
        due.at("met", w, 4, 5, 2);
        due.backing("met", w, "010");
        Due.rule(w, 1, 4, 0);
        due.is("a backing one is heard", w.enters(2), 0);
    }

    private static void entersByBest() {
        due.about("BEST: as a BELL, and the far PLACE has ROOM for one more.");
        for (int room = 0; room <= 4; room++) {
            // cart 1 at place 1; cart 0 went on to place 2 (a room of 0 stops it below)
            WhoBacks w = Due.behind("p2;p2;p2;v1 1;r2 " + room + ";u0 0;u2 0;", 4);
            due.at("room " + room, w, room == 0 ? 3 : 4, 2);
            for (int figure = 0; figure <= 9; figure += 9) {
                Due.rule(w, 1, 5, figure);
                due.is("BEST " + figure + ", UP, far place of room " + room + " with one", w.enters(1), room >= 2 ? 1 : 0);
                Due.rule(w, 1, 4, figure);
                due.is("BELL " + figure + ", UP, far place of room " + room, w.enters(1), 1);
            }
            w = Due.behind("p2;p2;p2;v1 1;r1 " + room + ";d0 0;d2 0;", 4);
            due.at("room " + room, w, room == 0 ? 3 : 2, 4);
            Due.rule(w, 1, 5, 0);
            due.is("BEST, DOWN, far place of room " + room + " with one", w.enters(1), room >= 2 ? 1 : 0);
            w = Due.behind("p2;p2;p2;v1 1;r2 " + room + ";u0 0;", 2);
            Due.rule(w, 1, 5, 0);
            due.is("BEST, far place of room " + room + " with none", w.enters(0), room >= 1 ? 1 : 0);
        }
        for (int spot = 3; spot <= 9; spot++) {
            WhoBacks w = Due.behind("p2;p3;p9;r2 4;v1 1;u12 0;d" + spot + " 0;", 14);
            for (int figure = 0; figure <= 4; figure++) {
                Due.rule(w, 1, 5, figure);
                due.is("BEST " + figure + " hears as a BELL, one at " + spot, w.enters(0), spot <= 4 + figure ? 0 : 1);
            }
        }
        due.about("BEST: at the END there is always room.");
        // cart 0 is at place 1, of room 1: carts 1 and 2 can't come, and wait at the END; cart 3 did the same at 0
        WhoBacks w = Due.behind("p3;p3;x0 50;u0 0;d2 0;d2 0;", 3);
        due.at("at place 1 and the END", w, 3, 6, 6);
        due.is("UP to the END", w.enters(0), 1);
        due.is("DOWN to a full place", w.enters(1), 0);
        w = Due.behind("p3;p3;x0 50;d0 0;u2 0;u2 0;", 3);
        due.at("at place 1 and 0", w, 3, 0, 0);
        due.is("DOWN to 0", w.enters(0), 1);
        due.is("UP to a full place", w.enters(1), 0);
    }

    private static void entersAsThoseAbove() {
        due.about("Others as those above them.");
        // by SORTED, NEAR, TOLD, HILLED (all under RULE) cart 0 enters whoever is within, at whatever hour, whatever room is there
        for (int kind : new int[] { 1, 2, 6, 7 }) {
            for (int figure = 0; figure <= 9; figure++) {
                WhoBacks w = Due.behind("p2;p4;v1 1;u0 1;d0 1;", 2);
                Due.rule(w, 1, kind, figure);
                due.is("kind " + kind + " with FIGURE " + figure, w.enters(0), 1);
            }
            due.ends("p2;x0 " + kind + "0;d0 0;", 2, 0, 0, 1, 0, 0);
            due.ends("p2;x0 " + kind + "0;u10 0;", 12, 0, 0, 1, 0, 0);
            due.ends("p2;p2;r1 0;x0 " + kind + "0;u0 0;", 61, 0, 60, 0, 1, 0);
        }
    }

    /** By each kind in village 2, with FIGURE 5. */
    private static void yieldsBy(WhoBacks w, int a, int b, int... wantByKind) {
        for (int kind = 0; kind < 8; kind++) {
            Due.rule(w, 2, kind, 5);
            due.is("yields(" + a + ", " + b + ") by kind " + kind, w.yields(a, b, 2), wantByKind[kind]);
        }
    }

    private static void backByKinds() {
        due.about("BACK: RULE the one of the greater number. SORTED the one of less WORTH, alike as a RULE.");
        // carts 0 and 1 go up, 2 and 3 down, each 1 to 3 spots from its own end
        WhoBacks w = Due.behind("p9;u0 1w5;u2 1w7;d0 1w6;d2 1w5;", 3);
        due.at("behind 3", w, 3, 1, 6, 8);
        due.is("RULE", w.yields(0, 2, 0), 2);
        due.is("RULE, the other way round", w.yields(2, 0, 0), 2);
        due.is("RULE", w.yields(3, 1, 0), 3);
        Due.rule(w, 0, 1, 0);
        due.is("SORTED: 5 against 6", w.yields(0, 2, 0), 0);
        due.is("SORTED: 6 against 5", w.yields(2, 0, 0), 0);
        due.is("SORTED: 7 against 6", w.yields(1, 2, 0), 2);
        due.is("SORTED: 6 against 7", w.yields(2, 1, 0), 2);
        due.is("SORTED: alike", w.yields(0, 3, 0), 3);
        due.is("SORTED: alike, the other way round", w.yields(3, 0, 0), 3);
        due.about("NEAR the one nearer (by SPOTS) to the PLACE behind it (0, if it is at one), alike as a RULE.");
        Due.rule(w, 0, 2, 0);
        due.is("NEAR: 3 against 3, alike", w.yields(0, 2, 0), 2);
        due.is("NEAR: 1 against 3", w.yields(1, 2, 0), 1);
        due.is("NEAR: 3 against 1", w.yields(2, 1, 0), 1);
        due.is("NEAR: 3 against 1", w.yields(0, 3, 0), 3);
        due.is("NEAR: 1 against 1, alike", w.yields(1, 3, 0), 3);
        // cart 0 at place 1 of three: 0 spots
        w = Due.behind("p2;p9;p9;x0 20;u0 1;d0 1;d1 1;", 2);
        due.at("cart 0 at a place", w, 2, 18, 19);
        due.is("NEAR: 0 against 1", w.yields(0, 2, 0), 0);
        due.is("NEAR: 2 against 0", w.yields(1, 0, 0), 0);
        // cart 1 comes on behind cart 2, and waits at the END: 0 spots, too
        w = Due.behind("p2;p9;p9;x0 20;u0 1;d1 1;d0 1;", 2);
        due.at("carts 0 and 1 at places", w, 2, 20, 18);
        due.is("NEAR: 0 against 0, alike", w.yields(0, 1, 0), 1);
        // the same with cart 0 at the END, and with one at each place between
        w = Due.behind("p2;p9;x0 20;d1 1;d0 1;u0 1;", 2);
        due.at("carts 0 and 2 at places", w, 11, 9, 2);
        due.is("NEAR: 0 against 0, alike", w.yields(0, 2, 0), 2);
        w = Due.behind("p2;p9;p2;x0 20;d0 1;u0 1;", 2);
        due.at("carts 0 and 1 at places between", w, 11, 2);
        due.is("NEAR: 0 against 0, alike", w.yields(0, 1, 0), 1);
        due.is("NEAR: 0 against 0, alike, the other way round", w.yields(1, 0, 0), 1);
        w = Due.behind("p9;x0 20;u1 1;d0 1;", 4);
        due.at("behind 4", w, 3, 5);
        due.is("NEAR: 3 against 4", w.yields(1, 0, 0), 0);
        due.about("NEAR: by the PLACE behind it as it goes.");
        // cart 1 at 6 of the first piece (6 from 0, 3 from place 1), cart 0 at 14 (4 from the END, 5 from place 1)
        w = Due.behind("p9;p9;x0 20;d2 1;u0 1;", 6);
        due.at("in two pieces", w, 14, 6);
        due.is("NEAR: 6 against 4, not 3 against 4", w.yields(1, 0, 0), 0);
        due.is("NEAR: the other way round", w.yields(0, 1, 0), 0);
        due.about("BEST the one with fewer MINUTES back to that PLACE (SPOTS times BACKS), alike as a RULE.");
        w = Due.behind("p9;u0 2;u2 3;d0 1;d1 1;", 3);
        due.at("behind 3", w, 3, 1, 6, 7);
        Due.rule(w, 0, 5, 0);
        due.is("BEST: 3 times 2 against 3 times 1", w.yields(0, 2, 0), 2);
        due.is("BEST: 1 times 3 against 3 times 1, alike", w.yields(1, 2, 0), 2);
        due.is("BEST: 3 against 2", w.yields(1, 3, 0), 3);
        w.backs(1, 1);
        due.is("BEST: 1 against 3", w.yields(2, 1, 0), 1);
        due.is("BEST: 1 against 3, the other way round", w.yields(1, 2, 0), 1);
        w.backs(3, 3);
        w.backs(0, 2);
        due.is("BEST: 6 against 6, alike", w.yields(0, 3, 0), 3);
        due.about("TOLD the one that is not LOADED, alike as a SORTED.");
        w = Due.behind("p9;u0 1lw1;u2 1w9;d0 1lw2;d2 1w1;", 3);
        Due.rule(w, 0, 6, 0);
        due.is("TOLD: only cart 0 is loaded", w.yields(0, 3, 0), 3);
        due.is("TOLD: only cart 2 is loaded", w.yields(2, 1, 0), 1);
        due.is("TOLD: only cart 2 is loaded, the other way round", w.yields(1, 2, 0), 1);
        due.is("TOLD: both are, 1 against 2", w.yields(0, 2, 0), 0);
        due.is("TOLD: none is, 9 against 1", w.yields(1, 3, 0), 3);
        w = Due.behind("p9;u0 1lw2;d0 1lw2;", 3);
        Due.rule(w, 0, 6, 0);
        due.is("TOLD: alike in all", w.yields(0, 1, 0), 1);
        due.is("TOLD: alike in all, the other way round", w.yields(1, 0, 0), 1);
        due.about("HILLED the one whose way falls (UP on 2, DOWN on 1, by the PIECE of the one that MEETS; asked by yields() of the first's, none, if it is at a PLACE) against one whose way doesn't, alike as a NEAR.");
        for (int hill = 0; hill <= 2; hill++) {
            // cart 0 goes up, 3 spots from 0; cart 1 down, 2 from the END: by NEAR cart 1
            w = Due.behind("p9h" + hill + ";x0 70;u0 1;d1 1;", 3);
            due.is("HILLED on " + hill, w.yields(0, 1, 0), hill == 2 ? 0 : 1);
            due.is("HILLED on " + hill + ", the other way round", w.yields(1, 0, 0), hill == 2 ? 0 : 1);
            // cart 0 goes down, 3 spots from the END; cart 1 up, 2 from 0
            w = Due.behind("p9h" + hill + ";x0 70;d0 1;u1 1;", 3);
            due.is("HILLED on " + hill + ", cart 0 down", w.yields(0, 1, 0), hill == 1 ? 0 : 1);
            due.is("HILLED on " + hill + ", cart 0 down, the other way round", w.yields(1, 0, 0), hill == 1 ? 0 : 1);
        }
        // cart 0 within piece 0, cart 1 within piece 1: by the piece of the first that is asked for
        w = Due.behind("p9h2;p9h1;x0 70;u0 1;d1 1;", 3);
        due.is("HILLED: by piece 0 cart 0's way falls", w.yields(0, 1, 0), 0);
        due.is("HILLED: by piece 1 cart 1's way falls", w.yields(1, 0, 0), 1);
        w = Due.behind("p9h1;p9h2;x0 70;u1 1;d0 1;", 3);
        due.is("HILLED: by piece 0 cart 1's way falls", w.yields(0, 1, 0), 1);
        due.is("HILLED: by piece 1 cart 0's way falls", w.yields(1, 0, 0), 0);
        // the first at a place, between two hills that fall for it: none, and NEAR tells
        w = Due.behind("p2h2;p9h2;x0 70;u0 1;d1 1;", 2);
        due.at("cart 0 at place 1", w, 2, 10);
        due.is("HILLED: at a place, 0 against 1 spots", w.yields(0, 1, 0), 0);
        w.backs(0, 0);
        due.is("HILLED: it can't back", w.yields(0, 1, 0), 1);
        w = Due.behind("p2h1;p9h1;x0 70;u0 1;d1 1;", 2);
        due.is("HILLED: the first at a place, the other's way falls", w.yields(0, 1, 0), 0);
        due.is("HILLED: the first within, its way falls", w.yields(1, 0, 0), 1);
        // the first at place 0 and at the END, though all hills fall for the other: NEAR tells
        w = Due.behind("p9h1;x0 70;u1 1;u0 1;d0 1;", 2);
        due.at("cart 0 at place 0", w, 0, 2, 7);
        due.is("HILLED: at place 0, 0 against 2 spots", w.yields(0, 2, 0), 0);
        due.is("HILLED: within, its way falls", w.yields(2, 0, 0), 2);
        w = Due.behind("p9h2;x0 70;d1 1;d0 1;u0 1;", 2);
        due.at("cart 0 at the END", w, 9, 7, 2);
        due.is("HILLED: at the END, 0 against 2 spots", w.yields(0, 2, 0), 0);
        due.is("HILLED: within, its way falls", w.yields(2, 0, 0), 2);
    }

    private static void backIfItCan() {
        due.about("If that one can't back, the other does; if neither can, both stand.");
        WhoBacks w = Due.behind("p9h2;u0 1w1;d1 1lw2;", 3);
        due.at("behind 3", w, 3, 8);
        // cart 0: 3 spots from its place, less worth, not loaded, its way falls; cart 1, slow up the hill: 1 spot
        int[] told = { 1, 0, 1, 1, 1, 1, 0, 0 };
        yieldsBy(w, 0, 1, told);
        yieldsBy(w, 1, 0, told);
        w.backs(0, 0);
        yieldsBy(w, 0, 1, 1, 1, 1, 1, 1, 1, 1, 1);
        w.backs(0, 3);
        w.backs(1, 0);
        yieldsBy(w, 1, 0, 0, 0, 0, 0, 0, 0, 0, 0);
        w.backs(0, 0);
        yieldsBy(w, 0, 1, -4, -4, -4, -4, -4, -4, -4, -4);
        w.go(2);
        due.at("on their way", w, 5, 7);
        w.go(10);
        due.at("both stand", w, 6, 7);
        due.backing("both stand", w, "00");
    }

    // ---- the minute

    private static void byNumbers() {
        due.about("A MINUTE (0 .. 999): CARTS by numbers, each by all as it is then:");
        // the follower of greater number steps into the spot left in the same minute, one of less number doesn't
        due.goes("p4;u0 0;u0 0;", 1, 0, 1, 2, 3, -3);
        due.goes("p4;u1 0;u0 0;", 0, -2, 0, 1, 2, 3, -3);
        WhoBacks w = Due.behind("p4;u1 0;u0 0;", 4);
        due.is("it waited for one minute", w.where(0, 4), 1);
        due.is("the other didn't", w.where(1, 4), 0);
        // of two that want one spot the one of less number has it
        w = Due.behind("p5;u0 0;d1 0;", 3);
        due.at("cart 0 came first", w, 3, 4);
        due.is("cart 1 waited", w.where(1, 4), 1);
        w = Due.behind("p5;d1 0;u0 0;", 3);
        due.at("cart 0 came first", w, 3, 2);
        due.is("cart 1 waited", w.where(1, 4), 1);
    }

    private static void comesOn() {
        due.about("1 AHEAD with START not above the MINUTE: it is ON its first SPOT, GOING (and acts at once).");
        due.goes("p5;u3 0;", 0, -2, -2, -2, 1, 2);
        due.goes("p5;d2 0;", 0, -2, -2, 4, 3);
        due.goes("p5;u0 0;", 0, 1, 2);
        WhoBacks w = Due.behind("p5;u3 1;", 4);
        due.is("it isn't BACKING", w.where(0, 1), 0);
        due.about("A CART that comes ON acts in the same MINUTE.");
        w = Due.behind("p5;x0 30;d3 1;", 4);
        due.at("it came on, and didn't enter", w, 5);
        due.is("it waited in that minute", w.where(0, 4), 1);
    }

    private static void minutesLeft() {
        due.about("2 With MINUTES of a STEP left: one less, nothing else.");
        WhoBacks w = Due.of("p3h1;u0 0l;");
        int[][] want = { { 1, 1 }, { 1, 0 }, { 2, 1 }, { 2, 0 } };
        for (int i = 0; i < 4; i++) {
            w.go(1);
            due.is("spot behind " + (i + 1), w.where(0, 0), want[i][0]);
            due.is("left behind " + (i + 1), w.where(0, 2), want[i][1]);
            due.is("it doesn't wait", w.where(0, 4), 0);
        }
        // in minute 1 cart 0 is busy with its step to 1, and cart 1 comes to 2; they meet in minute 2, once
        due.ends("p4h1;u0 1l;d0 1;", 11, 2, 3, 2, 0, 1);
        due.goes("p4h1;u0 1l;d0 1;", 0, 1, 1, 1, 2, 2, 3, 3, -3);
        due.goes("p4h1;u0 1l;d0 1;", 1, 3, 2, 3, 4, 4, 4, 4, 3, 2, 1, -3);
        // one told to back within a slow step goes on with that step first: cart 1 met it in minute 2, it backs from minute 3 on
        w = Due.behind("p5h1;x0 10;u0 1lw1;d0 1w2;", 3);
        due.at("met", w, 2, 3);
        due.backing("met", w, "10");
        due.is("a minute of its step is left", w.where(0, 2), 1);
        w.go(1);
        due.is("none is left", w.where(0, 2), 0);
        due.at("it didn't back yet", w, 2, 3);
        w.go(1);
        due.at("it backs", w, 1, 2);
    }

    private static void backing() {
        due.about("3 BACKING: if it is at a PLACE and has taken a STEP back since it began BACKING, or is at the end where it came onto the ROAD, it is GOING again (and does nothing else in this MINUTE);");
        // met at 3 (place 1) and 4 in minute 2; cart 0 of less worth backs from the place to 0, over two steps between
        WhoBacks w = Due.of("p3;p3;x0 10;u0 1;d0 1w9;");
        String[] isBacking = { "00", "00", "10", "10", "10", "10", "00", "00" };
        int[][] spots = { { 1, 5 }, { 2, 4 }, { 3, 4 }, { 2, 3 }, { 1, 2 }, { 0, 1 }, { 0, -3 }, { 1, -3 } };
        for (int i = 0; i < spots.length; i++) {
            w.go(1);
            due.at("behind " + (i + 1), w, spots[i]);
            due.backing("behind " + (i + 1), w, isBacking[i]);
        }
        due.is("GOING again is no waiting", w.where(0, 4), 0);
        due.is("three steps back", w.where(0, 3), 3);
        due.about("else it takes a STEP back, if that SPOT has room, its MINUTES (BACKS) less 1 being left then; one BACKED more;");
        for (int backs = 1; backs <= 3; backs++) {
            w = Due.behind("p9;u0 0;d0 " + backs + ";", 5);
            for (int i = 0; i < 5; i++) {
                due.is("BACKS " + backs + ", spot " + i, w.where(1, 0), 6 + i / backs > 9 ? 9 : 6 + i / backs);
                boolean on = 6 + i / backs <= 9;
                due.is("BACKS " + backs + ", left " + i, w.where(1, 2), on ? backs - 1 - i % backs : 0);
                due.is("BACKS " + backs + ", BACKED " + i, w.where(1, 3), Math.min(4, 1 + i / backs));
                w.go(1);
            }
        }
        due.about("one told to back at a PLACE takes a STEP back first.");
        due.goes("p3;p3;x0 10;u0 1;d0 1w9;", 0, 1, 2, 3, 2, 1, 0, 0, 1);
        due.about("It is GOING again at any PLACE;");
        // met within piece 1, a spot above place 1: it backs to the place and is going again there, is met again, and backs to 0
        due.goes("p3;p3;x0 10;u0 1;d2 1w9;", 0, 1, 2, 3, 4, 3, 3, 2, 1, 0, 0, 1);
        w = Due.behind("p3;p3;x0 10;u0 1;d2 1w9;", 5);
        due.backing("back at place 1", w, "10");
        // in minute 5 it is going again, then cart 1 meets it
        w.go(1);
        due.is("met again", w.state(5), 2);
        due.backing("told anew", w, "10");
        due.at("it did nothing else", w, 3, 4);
        due.about("BACKING takes BACKS alone, whatever it carries.");
        // cart 1 backs up the hill with its load, a step a minute
        due.goes("p9h2;u0 0;d0 1l;", 1, 8, 8, 7, 7, 6, 6, 7, 8, 9, 9);
        due.goes("p9h1;x0 10;u0 1lw1;d0 0w9;", 0, 1, 1, 2, 2, 3, 3, 2, 1, 0, 0, 1);
    }

    private static void oneBehindBacksToo() {
        due.about("if not, and CARTS are there that go the same way, can back and aren't BACKING, the one of the least number is BACKING from then on; it has WAITED (one MINUTE).");
        // cart 0 down at 5 and cart 1 up at 4 stand; 2, 3, 4 came to place 1 (room 3), 5 below it
        WhoBacks w = Due.behind("p3;p5;r1 3;d1 0;u0 0;u0 0;u0 1;u0 1;u0 1;", 7);
        due.at("all stand", w, 5, 4, 3, 3, 3, 2);
        due.backing("all stand", w, "000000");
        int waited = w.where(1, 4);
        w.backs(1, 1);
        w.go(1);
        // cart 1 is told; 2 can't back, so 3 is; 5 behind it, too, and steps back at once
        due.at("told", w, 5, 4, 3, 3, 3, 1);
        due.backing("told", w, "010101");
        due.is("cart 1 waited", w.where(1, 4), waited + 1);
        w.go(1);
        // 3 is backing already: 4 is told next
        due.at("told next", w, 5, 4, 3, 2, 3, 0);
        due.backing("told next", w, "010111");
        due.is("cart 1 waited", w.where(1, 4), waited + 2);
        w.go(1);
        // 2 steps into the spot that 1 left; 3 and 4 step back, 5 is going again
        due.at("backed", w, 5, 3, 4, 1, 2, 0);
        due.backing("backed", w, "010110");
        due.is("cart 1 waited no more", w.where(1, 4), waited + 2);
        due.about("the CART that comes to back, too, is one on the SPOT behind.");
        // cart 2 is on the spot behind, cart 3 one spot further: it isn't told by cart 1
        w = Due.behind("p9;d2 0;u0 1;u0 1;u0 1;", 5);
        due.at("before they meet", w, 6, 5, 4, 3);
        w.go(1);
        due.at("met", w, 6, 5, 4, 2);
        due.backing("cart 1, and 2 by 1, and 3 by 2", w, "0111");
        due.about("It has WAITED whether another one begins BACKING or not.");
        // behind cart 1 is one that can't back
        due.ends("p6;d0 0;u0 1;u0 0;", 63, 0, 60 + 61 + 62, 0, 1, 1);
        w = Due.behind("p6;d0 0;u0 1;u0 0;", 200);
        due.backing("only the one told", w, "010");
    }

    private static void otherWayBehind() {
        due.about("CARTS are there that go the same way, can back and aren't BACKING");
        // place 1 (spot 3, room 2) has cart 0, which goes down and hears cart 4 below, and cart 3, which can't back; cart 2 above is told to
        WhoBacks w = Due.behind("p3;p5;r1 2;x0 40;v1 1;d0 1;d3 0;u2 1;u2 0;u2 1;", 6);
        due.at("before they meet", w, 3, 5, 4, 3, 2);
        w.go(1);
        due.at("met", w, 3, 5, 4, 3, 2);
        due.is("cart 2 is told by cart 1", w.where(2, 1), 1);
        due.is("cart 0 isn't, it goes the other way", w.where(0, 1), 0);
        due.is("cart 3 isn't, it can't", w.where(3, 1), 0);
        due.is("cart 2 waited", w.where(2, 4), 1);
    }

    private static void going() {
        due.about("4 GOING: at a PLACE where it doesn't ENTER it has WAITED (one MINUTE).");
        WhoBacks w = Due.of("p2;x0 30;d0 0;");
        for (int i = 1; i <= 10; i++) {
            w.go(1);
            due.is("waited behind " + i, w.where(0, 4), i);
            due.at("behind " + i, w, 2);
        }
        w.go(1);
        due.at("it enters in minute 10", w, 1);
        due.is("waited no more", w.where(0, 4), 10);
        due.about("Else, if the SPOT ahead has room, it takes that STEP, its MINUTES less 1 being left; at its goal it is DONE (and off the ROAD).");
        w = Due.of("p2;u0 0;u0 0;d0 0;");
        w.go(1);
        due.is("three on the road", w.count(4), 3);
        w.go(1);
        due.at("cart 0 is done, cart 1 came into its spot", w, -3, 1, 2);
        due.is("two on the road", w.count(4), 2);
        due.is("one done", w.state(3), 1);
        due.is("left of a step of one minute", w.where(1, 2), 0);
        due.about("A STEP's SPOT is taken as the STEP begins;");
        // the spot that is left is free at once, the one that is taken isn't: cart 1 comes behind, cart 2 can't come ahead
        w = Due.behind("p4h1;u0 1l;u0 1l;", 3);
        due.at("one spot behind the other", w, 2, 1);
        w = Due.behind("p3h1;u1 0l;d0 0;", 2);
        due.at("cart 1 finds 1 taken", w, 1, 2);
        due.is("the step isn't gone yet", w.where(0, 2), 1);
        due.is("cart 1 waited", w.where(1, 4), 1);
    }

    private static void meeting() {
        due.about("If not: it has WAITED; and if it isn't at a PLACE and some CART that goes the other way and isn't BACKING is on that SPOT, the two MEET (with the least number of several):");
        // cart 1 comes down slowly; in minute 2 cart 0, at place 1, finds it ahead: no meeting; cart 1 then finds cart 0: a meeting
        WhoBacks w = Due.behind("p2;p2h2;u0 1;d0 1l;", 2);
        due.at("face to face", w, 2, 3);
        due.is("not met yet", w.state(5), 0);
        w.go(1);
        due.is("met once, not twice", w.state(5), 1);
        due.backing("cart 1 is told", w, "01");
        due.at("and didn't step yet", w, 2, 3);
        due.is("cart 0 waited", w.where(0, 4), 1);
        due.is("cart 1 waited", w.where(1, 4), 1);
        // of the same way: no meeting, though it waits
        w = Due.behind("p2;p2;r1 0;u0 1;u0 1;", 50);
        due.at("below a place without room", w, 1, 0);
        due.is("no meeting", w.state(5), 0);
        w = Due.behind("p3;p2;r1 0;u0 1;u0 1;", 50);
        due.at("below a place without room", w, 2, 1);
        due.is("no meeting", w.state(5), 0);
        due.is("the second waited, once at 0", w.where(1, 4), 49);
        // two at place 1 (room 2): cart 2 of worth 5 meets cart 0 of worth 9, not cart 1 of worth 1
        w = Due.behind("p2;p3;r1 2;x0 10;u0 1w9;u0 1w1;d0 1w5;", 3);
        due.at("two at a place", w, 2, 2, 3);
        due.is("met once", w.state(5), 1);
        due.backing("the least number of the two is met", w, "001");
        // cart 0 is told in minute 2, but cart 3 below can't back: in minute 3 cart 2 meets cart 1, in minute 4 no one
        w = Due.behind("p2;p3;r1 2;x0 10;u0 1w1;u0 1w2;d0 1w5;u0 0;", 3);
        due.backing("cart 0 is met", w, "1000");
        w.go(1);
        due.backing("cart 1 is met, cart 0 is BACKING", w, "1100");
        due.is("met twice", w.state(5), 2);
        w.go(1);
        due.is("both are BACKING: no more", w.state(5), 2);
        due.at("all wait", w, 2, 2, 3, 1);
        int waited = w.where(2, 4);
        w.go(1);
        due.is("it waits all the same", w.where(2, 4), waited + 1);
        due.about("Who MEETS may find the other one at a PLACE;");
        w = Due.behind("p3;p3;u0 1;d0 1;", 3);
        due.at("cart 0 at place 1", w, 3, 4);
        due.is("met", w.state(5), 1);
        due.about("if neither can back they MEET each MINUTE anew;");
        // cart 0 meets from minute 2 on, cart 1 from minute 1 on
        w = Due.of("p4;u0 0;d0 0;");
        int[] met = { 0, 1, 3, 5, 7, 9 };
        for (int i = 0; i < met.length; i++) {
            w.go(1);
            due.is("met behind " + (i + 1), w.state(5), met[i]);
        }
    }

    private static void ruleOfThePiece() {
        due.about("the RULE of its PIECE's VILLAGE tells who BACKS: that one is BACKING from then on.");
        // within piece 1, of village 1
        WhoBacks w = Due.behind("p2;p8;v1 1;x1 10;u0 1;d0 1w5;", 5);
        due.at("met", w, 5, 6);
        due.backing("by village 1 the one of less worth", w, "10");
        w = Due.behind("p2;p8;v1 1;x0 10;x2 10;u0 1;d0 1w5;", 5);
        due.backing("by village 1 the greater number", w, "01");
        // cart 1 comes to place 1 from above and is met there from below: the piece of the one that meets
        w = Due.behind("p2;p2;v0 2;x2 10;u1 1;d0 1w5;", 3);
        due.at("met at the place", w, 1, 2);
        due.backing("by village 2", w, "10");
        w = Due.behind("p2;p2;v1 2;x2 10;u1 1;d0 1w5;", 3);
        due.backing("not by village 2", w, "01");
        // by each kind, where the greater number wouldn't be told; cart 0 and 1 meet at 4 and 5, each 4 from its end
        due.backing("RULE", Due.behind("p9;x0 00;u0 1;d0 1;", 5), "01");
        due.backing("SORTED", Due.behind("p9;x0 10;u0 1w4;d0 1w5;", 5), "10");
        due.backing("NEAR, 3 against 5", Due.behind("p9;x0 20;u2 1;d0 1;", 6), "10");
        due.backing("NEAR, 5 against 3", Due.behind("p9;x0 20;d0 1;u2 1;", 6), "01");
        due.backing("TOLD", Due.behind("p9;x0 60;u0 1;d0 1l;", 5), "10");
        due.backing("HILLED on 2", Due.behind("p9h2;x0 70;u0 1;d0 1;", 5), "10");
        due.backing("HILLED on 1", Due.behind("p9h1;x0 70;d0 1;u0 1;", 5), "10");
        for (int kind = 3; kind <= 5; kind++) {
            w = Due.behind("p9;u0 1;d0 3;", 4);
            Due.rule(w, 0, kind, 9);
            w.go(1);
            due.backing("kind " + kind + ", told when they were on their way", w, kind == 5 ? "10" : "01");
        }
        due.about("HILLED: both by the PIECE of the one that MEETS.");
        // cart 1 at place 1 is met by cart 0 within piece 0: NEAR would tell cart 1 (0 spots)
        due.ends("p2h2;p2;x0 70;u1 1;d0 1;", 9, 1, 2, 2, 0, 1);
        due.backing("piece 0 falls for cart 0", Due.behind("p2h2;p2;x0 70;u1 1;d0 1;", 3), "10");
        due.backing("piece 0 falls for cart 1", Due.behind("p2h1;p2;x0 70;u1 1;d0 1;", 3), "01");
        due.backing("piece 1 matters not", Due.behind("p2;p2h2;x0 70;u1 1;d0 1;", 3), "01");
    }

    private static void stands() {
        due.about("STANDS: the last 60 MINUTES or more went by without any STEP, no CART is AHEAD, and not all are DONE.");
        // the last step is in minute 0: 60 minutes without one have gone by at minute 61
        WhoBacks w = Due.behind("p3;u0 0;d0 0;", 60);
        due.is("59 minutes", w.state(4), 0);
        due.is("one more", w.go(1), 61);
        due.is("60 minutes", w.state(4), 1);
        due.is("it ended", w.go(1), -3);
        // a step in the 60th minute: cart 2 comes then, and goes behind cart 0
        w = Due.behind("p4;u0 0;d0 0;u61 0;", 62);
        due.at("a step in minute 61", w, 2, 3, 1);
        due.is("it doesn't stand", w.state(4), 0);
        due.is("60 minutes more", w.go(200), 62 + 60);
        // a cart ahead: it comes in minute 120 without a step, and all stand at once
        w = Due.behind("p3;u0 0;d0 0;u120 0;", 120);
        due.is("one is ahead", w.state(4), 0);
        due.is("it comes, and waits", w.go(200), 121);
        due.is("more than 60 minutes", w.state(4), 1);
        // all done: it doesn't stand, however long that is
        w = Due.behind("p2;u0 0;", 200);
        due.is("all done", w.state(4), 0);
        due.is("some done, others stand", standsBehind("p3;u0 0;u5 0;d5 0;"), 1);
        due.is("a new object", new WhoBacks().state(4), 0);
        // minutes before the first cart came count, too
        w = Due.behind("p2;x0 39;d80 0;", 80);
        due.is("one is ahead", w.state(4), 0);
        due.is("it comes, and waits", w.go(1), 81);
        due.is("it stands at once", w.state(4), 1);
        due.about("STANDS, too, where all wait for an HOUR.");
        due.ends("p2;x0 39;d0 0;", 60, 0, 60, 0, 1, 0);
        due.ends("p2;x0 35;d0 0;", 60, 0, 60, 0, 1, 0);
        due.ends("p2;x0 34;d0 0;", 52, 0, 50, 1, 0, 0);
        due.about("what is left of it is no STEP for STANDS.");
        // the only step begins in minute 0, and a minute of it is left
        due.ends("p2h1;p2;r1 0;u0 0l;", 61, 0, 59, 0, 1, 0);
        // a step back of three minutes in minute 4, the last step of all in minute 5; then cart 2 can't back behind cart 1
        due.ends("p9;d0 0;u0 3;u2 0;", 66, 1, 61 + 59 + 62, 0, 1, 1);
    }

    private static int standsBehind(String text) { return Due.behind(text, 200).state(4); }

    /** Carts that go to and fro for ever: found by a search, not by hand. */
    private static final String FOR_EVER = "p2;p2;p3;x0 23;d7 2lw0;u2 2lw5;d0 3lw0;u1 2w5;d8 1lw3;";

    private static void ended() {
        due.about("ENDED: all are DONE, or STANDS, or MINUTE 999: then MINUTES change nothing.");
        WhoBacks w = Due.behind("p2;u0 0;u3 0;", 3);
        due.is("one done, one ahead: not ended", w.go(1), 4);
        due.is("all done", w.go(9), 5);
        due.is("ended", w.go(1), -3);
        due.is("the minute stays", w.state(0), 5);
        w = Due.behind(FOR_EVER, 200);
        for (int i = 0; i < 3; i++) w.go(200);
        due.is("minute 998", w.go(198), 998);
        due.is("minute 999", w.go(1), 999);
        due.is("it doesn't stand", w.state(4), 0);
        due.is("not all are done", w.state(3) < 5 ? 1 : 0, 1);
        due.is("ended", w.go(1), -3);
        due.is("the minute stays", w.state(0), 999);
        due.about("A RUN (in mind) goes from MINUTE 0 on (all CARTS AHEAD) to its END: COST is all that was BACKED (STEPS) and WAITED (MINUTES) by all CARTS, and 1000, if it STANDS.");
        w.row(1, 0, 0);
        due.is("a run ends at minute 999", w.run(1, 3), 999);
        due.is("its cost", w.run(1, 0), w.state(1) + w.state(2));
        // three steps back, one minute waited
        w = Due.behind("p3;p3;x0 10;u0 1;d0 1w9;", 4);
        w.row(1, 0, 0);
        due.is("cost of a run, whatever went by", w.run(1, 0), 4);
        due.is("backed", w.run(1, 1), 3);
        due.is("waited", w.run(1, 2), 1);
        w = Due.behind("p3;u0 0;d0 0;", 200);
        w.row(1, 0, 0);
        due.is("cost of one that stands", w.run(1, 0), 1120);
    }

    private static void inDoubt() {
        due.about("What is ENDED stays as it is when judged.");
        WhoBacks w = Due.behind("p3;u0 0;d0 0;", 61);
        int[] same = new int[100];
        java.util.Arrays.fill(same, 1);
        Due.ints(w, 1, same);
        due.is("it stands", w.judge(0, 1), -4);
        w = Due.behind("p3;u0 0;", 3);
        java.util.Arrays.fill(same, -3);
        Due.ints(w, 1, same);
        due.is("all are done", w.judge(0, 1), -4);
        // it stands at minute 60, though the hour would come at 100
        w = Due.of("p2;x0 39;d0 0;");
        java.util.Arrays.fill(same, 2);
        Due.ints(w, 1, same);
        due.is("it stands on the way", w.judge(0, 1), -4);
        w.go(60);
        due.is("it stands, and no hour comes", w.judge(0, 1), -4);
        due.about("ON the ROAD are those at PLACES, too.");
        w = Due.behind("p2;p2;x0 30;u0 0;u10 0;d0 0;", 2);
        due.at("at place 1, ahead, at the END", w, 2, -2, 4);
        due.is("two on the road", w.count(4), 2);
        due.is("asked of both", w.yields(0, 2, 0), -4);
    }

    // ---- the calls

    private static void callGo() {
        due.about("`int go(int n)`: n MINUTES (1 .. 200), or till it ENDED: the MINUTE. -1; -3: no PIECES, no CARTS, it ENDED.");
        WhoBacks w = Due.of(FOR_EVER);
        due.is("go(1)", w.go(1), 1);
        due.is("go(200)", w.go(200), 201);
        due.is("go(199)", w.go(199), 400);
        for (int wrong : new int[] { 0, -1, 201, Integer.MIN_VALUE, Integer.MAX_VALUE }) due.is("go(" + wrong + ")", w.go(wrong), -1);
        due.is("no minute went by", w.state(0), 400);
        due.is("till it ended", Due.of("p5;u0 0;").go(200), 5);
        due.is("just till it ended", Due.of("p5;u0 0;").go(5), 5);
        due.is("not yet", Due.of("p5;u0 0;").go(4), 4);
        due.is("no pieces", Due.of("u0 0;").go(1), -3);
        due.is("no carts", Due.of("p2;").go(1), -3);
        due.is("neither", new WhoBacks().go(200), -3);
        due.is("it ended", Due.behind("p5;u0 0;", 5).go(1), -3);
        due.is("-1 goes ahead of -3", new WhoBacks().go(0), -1);
        due.is("-1 goes ahead of -3", Due.behind("p5;u0 0;", 5).go(201), -1);
        due.about("`int anew()`: All begin anew at MINUTE 0: how many CARTS.");
        w = Due.behind("p4h1;x0 20;u0 3l;d0 3;", 4);
        due.is("anew()", w.anew(), 2);
        for (int k = 0; k < 2; k++) for (int what = 0; what <= 4; what++) due.is("where(" + k + ", " + what + ")", w.where(k, what), what == 0 ? -2 : 0);
        for (int what = 0; what <= 5; what++) due.is("state(" + what + ")", w.state(what), 0);
        due.is("what is told stays: BACKS", w.cart(1, 3), 3);
        due.is("what is told stays: the rule", w.village(0, 0), 2);
        for (int i = 1; i <= 12; i++) {
            w.go(1);
            WhoBacks other = Due.behind("p4h1;x0 20;u0 3l;d0 3;", i);
            for (int k = 0; k < 2; k++) for (int what = 0; what <= 4; what++) due.is("as at first " + i, w.where(k, what), other.where(k, what));
        }
        w = Due.behind("p3;u0 0;d0 0;", 200);
        due.is("it stands: anew()", w.anew(), 2);
        due.is("and no more", w.state(4), 0);
        due.is("60 minutes more", w.go(200), 61);
        w = Due.behind("p2;x0 39;d0 0;", 30);
        due.is("30 minutes without a step: anew()", w.anew(), 1);
        due.is("60 minutes anew", w.go(200), 60);
        due.is("it stands: anew()", w.anew(), 1);
        due.is("60 minutes anew", w.go(200), 60);
        w.row(1, 0, 0);
        due.is("60 minutes in a run", w.run(1, 3), 60);
        due.is("60 minutes in a run again", w.run(1, 2), 60);
        // the spots are free again
        w = Due.behind("p3;p3;r1 2;u0 0;u0 0;d9 0;", 5);
        w.anew();
        w.go(1);
        due.at("anew", w, 1, 0, -2);
        w.go(2);
        due.at("anew", w, 3, 2, -2);
    }

    private static void callsWhereAndState() {
        due.about("`int where(int cart, int what)`: Of a CART now: 0 its SPOT (-2 AHEAD, -3 DONE), 1 1 if BACKING, 2 MINUTES of a STEP left, 3 BACKED, 4 WAITED. -1000000001.");
        // cart 1 meets cart 0 in minute 1, backs in minute 2 (three minutes), is going again in minute 5
        WhoBacks w = Due.of("p4;u0 0;d0 3;u9 0;");
        int[][] want = { { 3, 0, 0, 0, 0 }, { 3, 1, 0, 0, 1 }, { 4, 1, 2, 1, 1 }, { 4, 1, 1, 1, 1 }, { 4, 1, 0, 1, 1 }, { 4, 0, 0, 1, 1 } };
        for (int i = 0; i < want.length; i++) {
            w.go(1);
            for (int what = 0; what <= 4; what++) due.is("where(1, " + what + ") behind " + (i + 1), w.where(1, what), want[i][what]);
        }
        for (int what = 0; what <= 4; what++) due.is("one ahead", w.where(2, what), what == 0 ? -2 : 0);
        due.is("one done", w.where(0, 0), -3);
        due.is("one done waited", w.where(0, 4), 1);
        for (int wrong : new int[] { -1, 3, 7, Integer.MIN_VALUE, Integer.MAX_VALUE }) due.is("where(" + wrong + ", 0)", w.where(wrong, 0), -1000000001);
        for (int wrong : new int[] { -1, 5, Integer.MIN_VALUE, Integer.MAX_VALUE }) due.is("where(0, " + wrong + ")", w.where(0, wrong), -1000000001);
        due.is("no carts", new WhoBacks().where(0, 0), -1000000001);
        due.about("`int state(int what)`: 0 the MINUTE, 1 all BACKED, 2 all WAITED, 3 how many are DONE, 4 1 if it STANDS, 5 how often two MET. -1.");
        int[] state = { 6, 1, 2, 1, 0, 1 };
        for (int what = 0; what <= 5; what++) due.is("state(" + what + ")", w.state(what), state[what]);
        for (int wrong : new int[] { -1, 6, Integer.MIN_VALUE, Integer.MAX_VALUE }) due.is("state(" + wrong + ")", w.state(wrong), -1);
        w = Due.behind("p6;d0 1;u0 1;u0 1;", 8);
        for (int what = 3; what <= 4; what++) {
            due.is("all " + what, w.state(what - 2), w.where(0, what) + w.where(1, what) + w.where(2, what));
        }
        due.is("two backed", w.where(1, 3) > 0 && w.where(2, 3) > 0 ? 1 : 0, 1);
    }

    private static void callEnters() {
        due.about("`int enters(int cart)`: Whether a CART that is ON a PLACE would ENTER now: 1, 0. -1; -3: it isn't.");
        WhoBacks w = Due.of("p2;p2;x0 30;u0 0;d0 0;u30 0;");
        due.is("ahead", w.enters(0), -3);
        w.go(1);
        due.is("within a piece", w.enters(0), -3);
        due.is("at the END", w.enters(1), 0);
        w.go(1);
        due.is("at place 1", w.enters(0), 1);
        w.go(2);
        due.is("done", w.enters(0), -3);
        w.go(6);
        due.is("at the END in minute 10", w.enters(1), 1);
        for (int wrong : new int[] { -1, 3, 7, Integer.MIN_VALUE, Integer.MAX_VALUE }) due.is("enters(" + wrong + ")", w.enters(wrong), -1);
        due.is("no pieces", Due.of("u0 0;").enters(0), -3);
        due.is("nothing changed", w.state(0), 10);
    }

    private static void callYields() {
        due.about("`int yields(int a, int b, int village)`: Which of two CARTS ON the ROAD would back now by the RULE of a VILLAGE (-4: neither can). -1 (one twice, too); -3: both go the same way, or not both are ON the ROAD.");
        WhoBacks w = Due.behind("p5;x0 10;x1 00;x2 20;u0 1w1;d0 1w2;u0 0;d20 1;", 2);
        due.is("village 0: less worth", w.yields(0, 1, 0), 0);
        due.is("village 1: greater number", w.yields(0, 1, 1), 1);
        due.is("village 2: alike", w.yields(0, 1, 2), 1);
        due.is("one twice", w.yields(0, 0, 0), -1);
        for (int wrong : new int[] { -1, 4, 7, Integer.MIN_VALUE, Integer.MAX_VALUE }) {
            due.is("no such first", w.yields(wrong, 1, 0), -1);
            due.is("no such other", w.yields(1, wrong, 0), -1);
            due.is("no such one twice", w.yields(wrong, wrong, 0), -1);
        }
        for (int wrong : new int[] { -1, 3, Integer.MIN_VALUE, Integer.MAX_VALUE }) due.is("no such village", w.yields(0, 1, wrong), -1);
        due.is("the same way", w.yields(0, 2, 0), -3);
        due.is("the first ahead", w.yields(3, 0, 0), -3);
        due.is("the other ahead", w.yields(0, 3, 0), -3);
        due.is("-1 goes ahead of -3: one twice", w.yields(3, 3, 0), -1);
        due.is("-1 goes ahead of -3: village", w.yields(0, 3, 3), -1);
        due.is("-1 goes ahead of -3: village", w.yields(0, 2, -1), -1);
        w.backs(1, 0);
        due.is("neither can", w.yields(1, 2, 0), -4);
        // ON the ROAD at both ends
        w = Due.behind("p5;x0 30;u10 1;d10 1;u0 1;d0 1;", 11);
        due.at("at 0, within, done, at the END", w, 0, 4, -3, 5);
        due.is("the first at 0", w.yields(0, 1, 0), 1);
        due.is("the other at 0", w.yields(1, 0, 0), 1);
        due.is("one at 0, one at the END", w.yields(0, 3, 0), 3);
        due.is("one at the END, one at 0", w.yields(3, 0, 0), 3);
        w = Due.behind("p2;u0 1;d1 1;d9 1;", 2);
        due.at("cart 0 is done", w, -3, 1, -2);
        due.is("the first done", w.yields(0, 1, 0), -3);
        due.is("the other done", w.yields(1, 0, 0), -3);
        due.is("one done, one ahead", w.yields(0, 2, 0), -3);
        due.is("nothing changed", w.state(5), 0);
    }

    private static void callJudge() {
        due.about("JUDGED: a ROW of SPOTS of a CART behind 1, 2, .. MINUTES from now on (in mind; -2 AHEAD, -3 DONE): the place of the first that isn't so (the least number of the SORT is skipped); -4.");
        int[] spots = { -2, -2, 1, 2, 3, 4, -3, -3 };
        int[] least = { -128, -32768, Integer.MIN_VALUE };
        for (int sort = 0; sort <= 2; sort++) {
            WhoBacks w = Due.of("p5;u2 0;");
            w.row(1, sort, spots.length);
            for (int i = 0; i < spots.length; i++) w.put(1, i, spots[i]);
            due.is("all so", w.judge(0, 1), -4);
            for (int i = 0; i < spots.length; i++) {
                w.put(1, i, spots[i] + 1);
                due.is("the first that isn't so", w.judge(0, 1), i);
                w.put(1, i, least[sort]);
                due.is("skipped", w.judge(0, 1), -4);
                w.put(1, i, least[sort] + 1);
                due.is("one more than the least", w.judge(0, 1), i);
                if (sort < 2) {
                    w.put(1, i, least[sort] - 1);
                    due.is("the lowest bits are the greatest number", w.judge(0, 1), i);
                }
                w.put(1, i, spots[i]);
            }
            for (int i = 0; i < spots.length; i++) w.put(1, i, 77);
            due.is("none is so", w.judge(0, 1), 0);
            for (int i = 0; i < spots.length; i++) w.put(1, i, least[sort]);
            due.is("all skipped", w.judge(0, 1), -4);
            due.is("in mind", w.state(0), 0);
        }
        WhoBacks w = Due.behind("p5;u2 0;", 3);
        Due.ints(w, 1, 2, 3, 4, -3, -3);
        due.is("from now on", w.judge(0, 1), -4);
        w.backs(0, 3);
        due.is("by all as it is now", w.judge(0, 1), -4);
        Due.rule(w, 0, 3, 9);
        due.is("within the piece no hour stops it", w.judge(0, 1), -4);
        w = Due.of("p2;u0 0;x0 30;d0 0;");
        Due.rule(w, 0, 4, 0);
        Due.ints(w, 1, 2, 2, 1);
        due.is("by a rule told just now", w.judge(1, 1), 1);
        Due.ints(w, 1, 2, 1, -3);
        due.is("by a rule told just now", w.judge(1, 1), -4);
        w = Due.of("p9;p9;p9;p9;p9;p9;p9;p9;u199 0;");
        int[] ahead = new int[100];
        java.util.Arrays.fill(ahead, -2);
        Due.ints(w, 1, ahead);
        due.is("a row of 100", w.judge(0, 1), -4);
        w.put(1, 99, -3);
        due.is("the last of 100", w.judge(0, 1), 99);
        due.about("`int judge(int cart, int d)`: JUDGED of a CART by the ROW in SHELF d; -4. -1, -11, -12 (no ROW), -3 (no PIECES).");
        w = Due.of("p5;u0 0;d9 0;");
        due.is("by nothing", w.judge(0, 5), -11);
        w.keep(5, 1, 0, 0);
        due.is("by a rule", w.judge(0, 5), -12);
        w.row(5, 2, 0);
        due.is("by no element", w.judge(0, 5), -4);
        for (int wrong : new int[] { -1, 2, 7, Integer.MIN_VALUE, Integer.MAX_VALUE }) due.is("judge(" + wrong + ", 5)", w.judge(wrong, 5), -1);
        for (int wrong : new int[] { -1, 8, Integer.MIN_VALUE, Integer.MAX_VALUE }) due.is("judge(0, " + wrong + ")", w.judge(0, wrong), -1);
        due.is("-1 goes ahead of -11", w.judge(2, 6), -1);
        w = Due.of("u0 0;");
        due.is("no pieces, by a row", w.judge(0, 0), -3);
        due.is("no pieces, by nothing", w.judge(0, 6), -11);
        w.keep(6, 1, 0, 0);
        due.is("no pieces, by a rule", w.judge(0, 6), -12);
        due.is("no pieces, no such cart", w.judge(1, 0), -1);
        due.is("no carts", Due.of("p2;").judge(0, 0), -1);
    }
}
