/** Sections 1 (but rules and shelves) and 2 of the document and promises 1 to 8, sentence by sentence: the edges that each names. */
public final class EdgesOfRoads {
    private static final Due due = new Due();

    public static void main(String[] args) {
        pieces();
        spots();
        rooms();
        villages();
        carts();
        slow();
        statements();
        bytesThatGoOn();
        faults();
        minutesWentBy();
        allOrNothing();
        newObject();
        callsOfRoads();
        due.end("EdgesOfRoads");
    }

    private static void reads(String text, int want) {
        due.is("road of '" + text + "'", Due.road(new WhoBacks(), text), want);
    }

    private static void pieces() {
        due.about("PIECES 0 .. 7 as they come (1 .. 8), each of 2 .. 9 STEPS, with a HILL (0 flat, 1 rising from its lower end, 2 falling).");
        WhoBacks w = Due.of("p9;p8;p7;p6;p5;p4;p3;p2;");
        for (int k = 0; k < 8; k++) due.is("steps of piece " + k, w.piece(k, 0), 9 - k);
        due.is("a ninth piece", Due.road(w, "p2;"), -2000);
        due.is("it didn't come", w.piece(8, 0), -1);
        due.is("eight stay", w.count(0), 8);
        for (int steps = 0; steps <= 9; steps++) reads("p" + steps + ";", steps < 2 ? -2000 : 1);
        for (int hill = 0; hill <= 9; hill++) {
            reads("p4h" + hill + ";", hill > 2 ? -2000 : 1);
            if (hill <= 2) due.is("its hill", Due.of("p4h" + hill + ";").piece(0, 1), hill);
        }
        due.is("no hill told: flat", Due.of("p4h2;p4;").piece(1, 1), 0);
        due.ends("p4h1;u0 0l;", 7, 0, 0, 1, 0, 0);
        due.ends("p4h2;d0 0l;", 7, 0, 0, 1, 0, 0);
        due.ends("p4h0;u0 0l;", 4, 0, 0, 1, 0, 0);
    }

    private static void spots() {
        due.about("PIECE k is between PLACES k and k and 1.");
        WhoBacks w = Due.of("p2;p3;p4;u0 0;");
        for (int place = 0; place <= 4; place++) due.is("room(" + place + ")", w.room(place), new int[] { -4, 1, 1, -4, -1 }[place]);
        int[] enters = { -3, 1, -3, -3, 1, -3, -3, -3, -3 };
        for (int i = 0; i < 9; i++) {
            w.go(1);
            due.is("a place at spot " + (i + 1), w.enters(0), enters[i]);
        }
        due.about("SPOTS are numbered from 0 (PLACE 0) on, one a STEP, up to END (the last PLACE).");
        w = Due.of("p9;p9;p9;p9;p9;p9;p9;p9;u0 0;");
        due.is("the longest road's END", w.count(2), 72);
        for (int k = 0; k < 8; k++) due.is("lower place of piece " + k, w.piece(k, 3), 9 * k);
        w.go(71);
        due.is("one spot before END", w.where(0, 0), 71);
        due.is("END is its goal", w.go(5), 72);
        due.is("done there", w.where(0, 0), -3);
        w = Due.of("p9;p9;p9;p9;p9;p9;p9;p9;x0 30;d0 0;");
        w.go(10);
        due.is("one that waits at END", w.where(0, 0), 72);
        due.is("the last place lets it wait, then in", w.enters(0), 1);
        w.go(71);
        due.is("one spot before 0", w.where(0, 0), 1);
        due.is("0 is its goal", w.go(5), 82);
        due.is("the shortest road's END", Due.of("p2;").count(2), 2);
    }

    private static void rooms() {
        due.about("ROOM of PLACES: the first and the last have as much as is wanted; others 0 .. 4 (1 at first).");
        WhoBacks w = Due.of("p2;x0 30;" + "d0 0;".repeat(7));
        w.go(10);
        due.at("seven at the last place", w, 2, 2, 2, 2, 2, 2, 2);
        w = Due.of("p2;x0 30;" + "u10 0;".repeat(7));
        w.go(20);
        due.at("seven at the first place", w, 0, 0, 0, 0, 0, 0, 0);
        for (int room = 0; room <= 9; room++) reads("p2;p2;r1 " + room + ";", room > 4 ? -2006 : 3);
        due.is("1 at first", Due.of("p2;p2;p2;").room(2), 1);
        for (int room = 0; room <= 4; room++) due.is("room told", Due.of("p2;p2;r1 " + room + ";").room(1), room);
        due.is("the last becomes one between: 1 at first", Due.of("p2;p2;r1 3;p2;").room(2), 1);

        due.about("A SPOT has room: a PLACE of so much ROOM while fewer CARTS are on it (first and last always); another SPOT while no CART is.");
        // a bell at place 1 holds those that go up while cart 0 comes down to it: so many as have room stand there, one below
        for (int room = 0; room <= 4; room++) {
            w = Due.of("p2;p9;r1 " + room + ";v1 1;x1 40;d0 0;" + "u0 0;".repeat(6));
            w.go(40);
            due.is("cart 0 comes down to place 1 of room " + room, w.where(0, 0), 3);
            for (int k = 1; k <= 6; k++) due.is("room " + room + ": where(" + k + ", 0)", w.where(k, 0), k <= room ? 2 : k == room + 1 ? 1 : 0);
        }
    }

    private static void villages() {
        due.about("VILLAGE of a PIECE: 0 .. 2 (0 at first), each with a RULE (a RULE with FIGURE 0 at first).");
        for (int village = 0; village <= 9; village++) reads("p2;v0 " + village + ";", village > 2 ? -2003 : 2);
        WhoBacks w = Due.of("p2;p2;v1 2;");
        due.is("0 at first", w.piece(0, 2), 0);
        due.is("as told", w.piece(1, 2), 2);
        Due.road(w, "v1 0;");
        due.is("told anew", w.piece(1, 2), 0);
        for (int v = 0; v < 3; v++) {
            due.is("a RULE at first", w.village(v, 0), 0);
            due.is("with FIGURE 0", w.village(v, 1), 0);
        }
        for (int piece = 0; piece < 8; piece++) {
            w = Due.of("p2;".repeat(8) + "v" + piece + " 1;");
            for (int k = 0; k < 8; k++) due.is("village of piece " + k, w.piece(k, 2), k == piece ? 1 : 0);
        }
    }

    private static void carts() {
        due.about("CARTS 0 .. 6 as they come: UP (from 0 to END) or DOWN;");
        WhoBacks w = Due.of("u0 0;d1 0;u2 0;d3 0;u4 0;d5 0;u6 0;");
        for (int k = 0; k < 7; k++) {
            due.is("up " + k, w.cart(k, 0), 1 - k % 2);
            due.is("start " + k, w.cart(k, 1), k);
        }
        due.is("an eighth up", Due.road(w, "u0 0;"), -2000);
        due.is("an eighth down", Due.road(w, "d0 0;"), -2000);
        due.is("it didn't come", w.cart(7, 0), -1);
        due.is("seven stay", w.count(1), 7);
        due.goes("p3;u0 0;", 0, 1, 2, -3);
        due.goes("p3;d0 0;", 0, 2, 1, -3);

        due.about("START (MINUTE 0 .. 199), LOADED or not, BACKS (0: it can't; 1 .. 3 MINUTES a STEP), WORTH (0 .. 99).");
        for (int start : new int[] { 0, 1, 9, 10, 99, 100, 198, 199 }) {
            reads("u" + start + " 0;", 1);
            due.is("START", Due.of("d" + start + " 0;").cart(0, 1), start);
        }
        for (int start : new int[] { 200, 201, 209, 299, 999 }) reads("u" + start + " 0;", -2000);
        w = Due.of("p3;u199 0;");
        w.go(199);
        due.is("ahead up to minute 199", w.where(0, 0), -2);
        w.go(1);
        due.is("on in minute 199", w.where(0, 0), 1);
        due.is("LOADED", Due.of("u0 0l;").cart(0, 2), 1);
        due.is("not LOADED", Due.of("u0 0l;u0 0;").cart(1, 2), 0);
        for (int backs = 0; backs <= 9; backs++) {
            reads("d0 " + backs + ";", backs > 3 ? -2000 : 1);
            if (backs <= 3) due.is("BACKS", Due.of("d0 " + backs + ";").cart(0, 3), backs);
        }
        // they meet at 4 and 5; the second backs to 9 and comes again
        due.goes("p9;u0 0;d0 1;", 1, 8, 7, 6, 5, 6, 7, 8, 9, 9);
        due.goes("p9;u0 0;d0 2;", 1, 8, 7, 6, 5, 6, 6, 7, 7, 8, 8, 9, 9, 9);
        due.goes("p9;u0 0;d0 3;", 1, 8, 7, 6, 5, 6, 6, 6, 7, 7, 7, 8, 8, 8, 9, 9, 9, 9);
        due.goes("p9;u0 1;d0 0;", 0, 1, 2, 3, 4, 4, 3, 2, 1, 0, 0);
        for (int worth : new int[] { 0, 1, 9, 10, 98, 99 }) due.is("WORTH", Due.of("d0 0w" + worth + ";").cart(0, 4), worth);
        for (int worth : new int[] { 100, 101, 199, 999 }) reads("d0 0w" + worth + ";", -2000);
        due.is("none told", Due.of("d0 0w7;d0 0;").cart(1, 4), 0);

        due.about("A CART is AHEAD (not there yet), ON a SPOT, or DONE. FACING it goes by one SPOT toward its goal.");
        w = Due.of("p2;u3 0;d1 0;");
        int[][] spots = { { -2, -2 }, { -2, 1 }, { -2, -3 }, { 1, -3 }, { -3, -3 } };
        int[][] counts = { { 0, 0 }, { 1, 0 }, { 0, 1 }, { 1, 1 }, { 0, 2 } };
        for (int i = 0; i < 5; i++) {
            w.go(1);
            due.at("minute " + (i + 1), w, spots[i]);
            due.is("on the road", w.count(4), counts[i][0]);
            due.is("done", w.state(3), counts[i][1]);
        }
    }

    private static void slow() {
        due.about("SLOW: a LOADED CART that goes up a HILL (UP on 1, DOWN on 2) takes 2 MINUTES a STEP, others 1.");
        for (int hill = 0; hill <= 2; hill++) {
            due.ends("p3h" + hill + ";u0 0;", 3, 0, 0, 1, 0, 0);
            due.ends("p3h" + hill + ";d0 0;", 3, 0, 0, 1, 0, 0);
            due.ends("p3h" + hill + ";u0 0l;", hill == 1 ? 5 : 3, 0, 0, 1, 0, 0);
            due.ends("p3h" + hill + ";d0 0l;", hill == 2 ? 5 : 3, 0, 0, 1, 0, 0);
        }
        // the hill of the piece ahead counts, from its first step to its last
        due.goes("p2;p2h1;p2;u0 0l;", 0, 1, 2, 3, 3, 4, 4, 5, -3);
        due.goes("p2;p2h2;p2;d0 0l;", 0, 5, 4, 3, 3, 2, 2, 1, -3);
        due.goes("p2h1;p2h2;u0 0l;", 0, 1, 1, 2, 2, 3, -3);
    }

    private static void statements() {
        due.about("A ROAD is read from bytes: STATEMENTS, each with ; behind:");
        reads("p2;p2;", 2);
        reads("p2;p2", -1005);
        reads("p2p2;", -1002);
        reads("p2;;", -1003);
        reads(";", -1000);
        due.about("p, STEPS (a digit), then perhaps h and HILL (a digit): a PIECE more;");
        WhoBacks w = Due.of("p3h2;");
        due.is("steps", w.piece(0, 0), 3);
        due.is("hill", w.piece(0, 1), 2);
        due.is("one more", Due.road(w, "p4;"), 1);
        due.is("pieces", w.count(0), 2);
        due.is("its lower place", w.piece(1, 3), 3);
        due.about("r, PLACE (a digit), a blank, ROOM (a digit);");
        w = Due.of("p2;p2;p2;r1 4;r2 0;");
        due.is("room(1)", w.room(1), 4);
        due.is("room(2)", w.room(2), 0);
        due.is("told anew", Due.road(w, "r2 3;r2 2;"), 2);
        due.is("room(2)", w.room(2), 2);
        due.about("v, PIECE (a digit), a blank, VILLAGE (a digit);");
        w = Due.of("p2;p2;v0 1;v1 2;");
        due.is("piece 0", w.piece(0, 2), 1);
        due.is("piece 1", w.piece(1, 2), 2);
        due.about("x, VILLAGE (a digit), a blank, KIND (a digit), FIGURE (a digit): its RULE;");
        for (int kind = 0; kind <= 9; kind++) {
            reads("x0 " + kind + "0;", kind > 7 ? -2000 : 1);
            reads("x0 " + kind + "9;", kind > 7 ? -2000 : 1);
            reads("x" + kind + " 00;", kind > 2 ? -2000 : 1);
        }
        w = Due.of("x0 09;x1 70;x2 35;");
        int[] want = { 0, 9, 7, 0, 3, 5 };
        for (int i = 0; i < 6; i++) due.is("village(" + i / 2 + ", " + i % 2 + ")", w.village(i / 2, i % 2), want[i]);
        due.about("u (UP) or d (DOWN), START, a blank, BACKS (a digit), then perhaps l (LOADED), then perhaps w and WORTH: a CART more.");
        w = Due.of("u7 1;d17 2l;u117 3w8;d0 0lw88;");
        int[][] told = { { 1, 7, 0, 1, 0 }, { 0, 17, 1, 2, 0 }, { 1, 117, 0, 3, 8 }, { 0, 0, 1, 0, 88 } };
        for (int k = 0; k < 4; k++) for (int what = 0; what < 5; what++) due.is("cart(" + k + ", " + what + ")", w.cart(k, what), told[k][what]);
        due.about("NUMBERS (START, WORTH) have 1 to 3 digits, no 0 ahead of another.");
        reads("u0 0w0;", 1);
        reads("u10 0w10;", 1);
        reads("u100 0w50;", 1);
        reads("u00 0;", -1002);
        reads("u05 0;", -1002);
        reads("u007 0;", -1002);
        reads("u1000 0;", -1004);
        reads("u0 0w00;", -1006);
        reads("u0 0w07;", -1006);
        reads("u0 0w1000;", -1008);
        due.about("At least one STATEMENT.");
        reads("", -1000);
        due.is("none come behind others either", Due.road(Due.of("p2;u0 0;"), ""), -1000);
    }

    private static final String LETTERS = "prvxud";
    private static final String DIGITS = "0123456789";

    /** How a text may begin, and with which bytes it then goes on: worked out by hand, not by a grammar. */
    private static final String[][] GOES_ON = {
        { "", LETTERS }, { "p", DIGITS }, { "p4", "h;" }, { "p4h", DIGITS }, { "p4h1", ";" }, { "p4;", LETTERS }, { "p4h1;", LETTERS },
        { "r", DIGITS }, { "r1", " " }, { "r1 ", DIGITS }, { "r1 2", ";" }, { "r1 2;", LETTERS },
        { "v", DIGITS }, { "v1", " " }, { "v1 ", DIGITS }, { "v1 2", ";" }, { "v1 2;", LETTERS },
        { "x", DIGITS }, { "x1", " " }, { "x1 ", DIGITS }, { "x1 2", DIGITS }, { "x1 23", ";" }, { "x1 23;", LETTERS },
        { "u", DIGITS }, { "u0", " " }, { "u1", DIGITS + " " }, { "u12", DIGITS + " " }, { "u10", DIGITS + " " }, { "u123", " " }, { "u100", " " },
        { "u1 ", DIGITS }, { "u1 2", "lw;" }, { "u1 2l", "w;" }, { "u1 2w", DIGITS }, { "u1 2lw", DIGITS }, { "u1 2w0", ";" },
        { "u1 2w1", DIGITS + ";" }, { "u1 2lw12", DIGITS + ";" }, { "u1 2w123", ";" }, { "u1 2;", LETTERS }, { "u1 2lw3;", LETTERS },
        { "d", DIGITS }, { "d0", " " }, { "d9", DIGITS + " " }, { "d9 ", DIGITS }, { "d9 0", "lw;" }, { "d9 0l", "w;" }, { "d9 0w", DIGITS } };

    private static void bytesThatGoOn() {
        due.about("FAULT: kind 1 the place of the first byte with which no ROAD can go on (the size, if it ends too early);");
        for (String[] begin : GOES_ON) {
            for (String ahead : new String[] { "", "p9;x0 00;" }) {
                String text = ahead + begin[0];
                boolean whole = text.endsWith(";");
                if (!whole) reads(text, -1000 - text.length());
                for (int b = 0; b < 256; b++) {
                    boolean goesOn = begin[1].indexOf(b) >= 0;
                    int answer = Due.road(new WhoBacks(), text + (char) b);
                    String call = "road of '" + text + "' and byte " + b;
                    if (!goesOn) due.is(call, answer, -1000 - text.length());
                    else if (b != ';') due.is(call + ", which ends too early", answer, -1000 - text.length() - 1);
                    else due.is(call + " is no fault of kind 1", answer > 0 || answer <= -2000 ? 1 : 0, 1);
                }
            }
        }
        String full = "x0 00;".repeat(15) + "u0 1;d0 1;";
        due.is("a text of 100 bytes", full.length(), 100);
        reads(full, 17);
        reads("x0 00;".repeat(16) + "x0 0", -1100);
        reads("x0 00;".repeat(16) + "x0 q", -1099);
        reads("x0 00;".repeat(15) + "u0 1;d0 4;", -2095);
        reads("p2;".repeat(8) + "p2;".repeat(25), -2024);
    }

    private static void faults() {
        due.about("else kind 2 the place of the letter of the first STATEMENT that isn't as told (a number out of range, no room, a PIECE, PLACE that isn't there or whose ROOM can't be told; p, r, u, d: MINUTES went by): -1000 times the kind less the place.");
        String[] outOfRange = { "p1;", "p0;", "p2h3;", "v0 3;", "x3 00;", "x0 80;", "u200 0;", "d200 0;", "u0 4;", "d0 4;", "u0 0w100;", "d0 0lw100;" };
        for (String wrong : outOfRange) {
            reads("p2;" + wrong, -2003);
            reads("p2;p2;x0 11;" + wrong + "p2;", -2012);
        }
        reads("p2;p2;r1 5;", -2006);
        reads("p2;p2;r1 9;", -2006);
        reads("p2;".repeat(9), -2024);
        reads("u0 0;".repeat(8), -2035);
        for (int piece = 0; piece <= 9; piece++) reads("p2;p2;p2;v" + piece + " 1;", piece > 2 ? -2009 : 4);
        for (int place = 0; place <= 9; place++) reads("p2;p2;p2;r" + place + " 2;", place == 1 || place == 2 ? 4 : -2009);
        for (int place = 0; place <= 9; place++) reads("p2;".repeat(8) + "r" + place + " 2;", place >= 1 && place <= 7 ? 9 : -2024);
        for (int piece = 0; piece <= 9; piece++) reads("p2;".repeat(8) + "v" + piece + " 2;", piece <= 7 ? 9 : -2024);
        reads("r0 1;", -2000);
        reads("v0 0;", -2000);
        due.about("kind 1 (of any place) goes ahead of kind 2;");
        reads("p1;p2;q", -1006);
        reads("p1;p", -1004);
        reads("p1", -1002);
        due.about("STATEMENTS are tried one behind the other, each on what those ahead of it made, and the first that can't be done so is told.");
        reads("p2;r1 2;p2;", -2003);
        reads("p2;p2;r1 2;", 3);
        reads("v1 1;p2;p2;", -2000);
        reads("p2;p2;v1 1;", 3);
        reads("p2;v1 1;p2;v1 1;p0;", -2003);
        reads("u200 0;p1;", -2000);
        reads("p2;p2;r2 2;p2;r2 2;", -2006);
        due.is("on what is there already", Due.road(Due.of("p2;"), "p2;r1 2;"), 2);
    }

    private static void minutesWentBy() {
        due.about("Villages and rules may come when MINUTES went by.");
        WhoBacks w = Due.behind("p3;p3;u0 1;", 1);
        due.is("a village", Due.road(w, "v1 2;"), 1);
        due.is("a rule", Due.road(w, "x2 61;"), 1);
        due.is("both", Due.road(w, "v0 1;x1 11;"), 2);
        due.is("piece(1, 2)", w.piece(1, 2), 2);
        due.is("village(2, 0)", w.village(2, 0), 6);
        due.is("from a shelf", w.keep(3, 1, 5, 5) + w.rule(3, 2), 5);
        due.is("the minute stays", w.state(0), 1);
        due.is("the cart stays", w.where(0, 0), 1);
        due.about("p, r, u, d: MINUTES went by");
        String[] refused = { "p2;", "r1 2;", "u0 1;", "d0 1;" };
        for (String text : refused) {
            due.is(text + " behind a minute", Due.road(w, text), -2000);
            due.is(text + " behind a rule, behind a minute", Due.road(w, "x0 00;" + text), -2006);
            due.is("it ended: " + text, Due.road(Due.behind("p3;p3;u0 1;", 200), text), -2000);
        }
        w.anew();
        for (String text : refused) due.is(text + " at minute 0 again", Due.road(w, text), 1);
        due.is("pieces", w.count(0), 3);
        due.is("carts", w.count(1), 3);
        due.is("room", w.room(1), 2);
        w = Due.of("p3;p3;u0 1;");
        w.image();
        w.go(3);
        w.restore();
        due.is("restored to minute 0", Due.road(w, "p2;r1 2;u0 1;d0 1;"), 4);
    }

    private static void allOrNothing() {
        due.about("Without FAULT all of it comes; with one nothing.");
        WhoBacks w = Due.of("p3;p3;u0 1;");
        String good = "x0 11;v0 1;r1 2;p5h1;u5 2;";
        for (String fault : new String[] { "p1;", "q", "p", "v9 0;" }) {
            due.is("a fault at the end", Due.road(w, good + fault) < 0 ? 1 : 0, 1);
            int[] got = { w.count(0), w.count(1), w.count(2), w.room(1), w.village(0, 0), w.village(0, 1), w.piece(0, 2), w.piece(2, 0) };
            int[] want = { 2, 1, 6, 1, 0, 0, 0, -1 };
            for (int i = 0; i < got.length; i++) due.is("nothing comes " + i, got[i], want[i]);
        }
        due.is("without a fault", Due.road(w, good), 5);
        int[] got = { w.count(0), w.count(1), w.count(2), w.room(1), w.village(0, 0), w.village(0, 1), w.piece(0, 2), w.piece(2, 1), w.cart(1, 1) };
        int[] want = { 3, 2, 11, 2, 1, 1, 1, 1, 5 };
        for (int i = 0; i < got.length; i++) due.is("all comes " + i, got[i], want[i]);
        due.about("The ROW that is read, and what is taken from a SHELF, stay there;");
        Due.text(w, 4, "x1 35;");
        w.road(4);
        due.element(w, 4, 0, 0, 'x');
        due.element(w, 4, 5, 0, ';');
        w.keep(5, 1, 4, 4);
        w.rule(5, 0);
        due.is("the rule stays on its shelf", w.words(5), 8);
    }

    private static void newObject() {
        due.about("`WhoBacks()`: No PIECES, no CARTS.");
        WhoBacks w = new WhoBacks();
        due.is("pieces", w.count(0), 0);
        due.is("carts", w.count(1), 0);
        due.is("END", w.count(2), 0);
        due.is("piece(0, 0)", w.piece(0, 0), -1);
        due.is("room(0): no place either", w.room(0), -1);
        due.is("cart(0, 0)", w.cart(0, 0), -1);
        due.is("the minute", w.state(0), 0);
        due.is("anew()", w.anew(), 0);
    }

    private static void callsOfRoads() {
        due.about("`int road(int d)`: The text in SHELF d: how many STATEMENTS; the FAULT. -1, -11, -12 (no ROW of bytes).");
        WhoBacks w = new WhoBacks();
        for (int d = 0; d < 8; d++) {
            due.is("road of nothing", w.road(d), -11);
            Due.text(w, d, "x0 0" + d + ";x1 00;");
            due.is("road(" + d + ")", w.road(d), 2);
            due.is("village(0, 1)", w.village(0, 1), d);
        }
        for (int d : new int[] { -1, 8, Integer.MIN_VALUE, Integer.MAX_VALUE }) due.is("road(" + d + ")", w.road(d), -1);
        // what was a text is no more one as shorts, ints, a rule
        for (int sort = 1; sort <= 2; sort++) {
            Due.text(w, 3, "p2;");
            w.row(3, sort, 3);
            for (int i = 0; i < 3; i++) w.put(3, i, "p2;".charAt(i));
            due.is("road of sort " + sort, w.road(3), -12);
        }
        Due.text(w, 3, "p2;");
        w.keep(3, 1, 0, 0);
        due.is("road of a rule", w.road(3), -12);
        due.about("`int piece(int piece, int what)`: Of a PIECE: 0 STEPS, 1 HILL, 2 VILLAGE, 3 the SPOT of its lower PLACE. -1.");
        w = Due.of("p5h1;p2h2;v1 1;");
        int[][] want = { { 5, 1, 0, 0 }, { 2, 2, 1, 5 } };
        for (int k = 0; k < 2; k++) for (int what = 0; what < 4; what++) due.is("piece(" + k + ", " + what + ")", w.piece(k, what), want[k][what]);
        for (int wrong : new int[] { -1, 2, 7, 8, Integer.MIN_VALUE, Integer.MAX_VALUE }) due.is("piece(" + wrong + ", 0)", w.piece(wrong, 0), -1);
        for (int wrong : new int[] { -1, 4, Integer.MIN_VALUE, Integer.MAX_VALUE }) due.is("piece(0, " + wrong + ")", w.piece(0, wrong), -1);
        due.about("`int room(int place)`: ROOM of a PLACE (-4: as much as is wanted). -1.");
        w = Due.of("p5;p2;p3;r1 0;r2 4;");
        int[] rooms = { -4, 0, 4, -4 };
        for (int k = 0; k < 4; k++) due.is("room(" + k + ")", w.room(k), rooms[k]);
        for (int wrong : new int[] { -1, 4, 8, 9, Integer.MIN_VALUE, Integer.MAX_VALUE }) due.is("room(" + wrong + ")", w.room(wrong), -1);
        w = Due.of("p2;".repeat(8));
        due.is("the last of eight pieces", w.room(8), -4);
        due.is("the one before it", w.room(7), 1);
        due.is("none beyond", w.room(9), -1);
        due.about("`int cart(int cart, int what)`: Of a CART: 0 1 if UP, 1 START, 2 1 if LOADED, 3 BACKS, 4 WORTH. -1.");
        w = Due.of("u199 3lw99;d0 0;");
        int[][] told = { { 1, 199, 1, 3, 99 }, { 0, 0, 0, 0, 0 } };
        for (int k = 0; k < 2; k++) for (int what = 0; what < 5; what++) due.is("cart(" + k + ", " + what + ")", w.cart(k, what), told[k][what]);
        for (int wrong : new int[] { -1, 2, 6, 7, Integer.MIN_VALUE, Integer.MAX_VALUE }) due.is("cart(" + wrong + ", 0)", w.cart(wrong, 0), -1);
        for (int wrong : new int[] { -1, 5, Integer.MIN_VALUE, Integer.MAX_VALUE }) due.is("cart(0, " + wrong + ")", w.cart(0, wrong), -1);
        due.about("`int backs(int cart, int n)`: BACKS of a CART: what it was. -1.");
        int was = 3;
        for (int n : new int[] { 0, 1, 2, 3, 0 }) {
            due.is("backs(0, " + n + ")", w.backs(0, n), was);
            was = n;
        }
        due.is("the other's stay", w.cart(1, 3), 0);
        for (int wrong : new int[] { -1, 4, Integer.MIN_VALUE, Integer.MAX_VALUE }) due.is("backs(1, " + wrong + ")", w.backs(1, wrong), -1);
        for (int wrong : new int[] { -1, 2, 7, Integer.MIN_VALUE, Integer.MAX_VALUE }) due.is("backs(" + wrong + ", 1)", w.backs(wrong, 1), -1);
        due.about("`int village(int village, int what)`: KIND of the RULE of a VILLAGE (what 0), its FIGURE (1). -1.");
        w = Due.of("x0 12;x1 34;x2 56;");
        for (int v = 0; v < 3; v++) {
            due.is("village(" + v + ", 0)", w.village(v, 0), 2 * v + 1);
            due.is("village(" + v + ", 1)", w.village(v, 1), 2 * v + 2);
        }
        for (int wrong : new int[] { -1, 3, Integer.MIN_VALUE, Integer.MAX_VALUE }) due.is("village(" + wrong + ", 0)", w.village(wrong, 0), -1);
        for (int wrong : new int[] { -1, 2, Integer.MIN_VALUE, Integer.MAX_VALUE }) due.is("village(0, " + wrong + ")", w.village(0, wrong), -1);
        due.about("`int rule(int d, int village)`: The RULE in SHELF d is that of a VILLAGE: its KIND. -1, -11, -12 (no RULE).");
        for (int kind = 0; kind < 8; kind++) {
            w.keep(kind, 1, kind, 9 - kind);
            due.is("rule of kind " + kind, w.rule(kind, kind % 3), kind);
            due.is("its kind", w.village(kind % 3, 0), kind);
            due.is("its figure", w.village(kind % 3, 1), 9 - kind);
        }
        for (int wrong : new int[] { -1, 3, Integer.MIN_VALUE, Integer.MAX_VALUE }) due.is("rule(0, " + wrong + ")", w.rule(0, wrong), -1);
        for (int wrong : new int[] { -1, 8, Integer.MIN_VALUE, Integer.MAX_VALUE }) due.is("rule(" + wrong + ", 0)", w.rule(wrong, 0), -1);
        w.keep(0, 0, 0, 0);
        due.is("rule of nothing", w.rule(0, 0), -11);
        w.row(0, 0, 3);
        due.is("rule of a row", w.rule(0, 0), -12);
    }
}
