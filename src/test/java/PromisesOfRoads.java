/** Promises 1 to 8: a new object, and what is told of roads. */
public final class PromisesOfRoads {
    private static final Due due = new Due();

    public static void main(String[] args) {
        aNewObject();
        statements();
        firstWrongByte();
        statementsNotAsTold();
        minutesWentBy();
        shelfOfTheText();
        pieces();
        rooms();
        carts();
        backs();
        villagesAndRules();
        due.end("PromisesOfRoads");
    }

    private static void aNewObject() {
        WhoBacks w = new WhoBacks();
        for (int what = 0; what <= 5; what++) {
            due.is("new: count(" + what + ")", w.count(what), 0);
            due.is("new: state(" + what + ")", w.state(what), 0);
        }
        for (int d = 0; d < 8; d++) due.is("new: words(" + d + ")", w.words(d), -11);
        for (int v = 0; v < 3; v++) due.is("new: village", w.village(v, 0) * 100 + w.village(v, 1), 0);
        due.is("new: piece", w.piece(0, 0), -1);
        due.is("new: room", w.room(0), -1);
        due.is("new: cart", w.cart(0, 0), -1);
        due.is("new: where", w.where(0, 0), -1000000001);
        due.is("new: go", w.go(1), -3);
        due.is("new: restore", w.restore(), -3);
    }

    private static void reads(String text, int want) {
        due.is("road of '" + text + "'", Due.road(new WhoBacks(), text), want);
    }

    private static void statements() {
        reads("p2;", 1);
        reads("p9h2;p2h0;r1 4;v1 2;x2 79;u199 3lw99;d0 0;u10 1l;d100 2w0;", 9);
        reads("u0 0;", 1);
        reads("x0 00;", 1);
        WhoBacks w = Due.of("p2;p3;");
        due.is("a second text comes on top", Due.road(w, "p4;r2 3;"), 2);
        due.is("count(0)", w.count(0), 3);
        due.is("count(2)", w.count(2), 9);
        due.is("room(2)", w.room(2), 3);
        Due.text(w, 0, "p2;");
        w.road(0);
        due.is("the text stays", w.road(0), 1);
        due.is("count(0)", w.count(0), 5);
    }

    private static void firstWrongByte() {
        reads("", -1000);
        String whole = "p4h1;";
        for (int n = 1; n < whole.length(); n++) reads(whole.substring(0, n), -1000 - n);
        String cart = "u123 2lw45;";
        for (int n = 1; n < cart.length(); n++) reads(cart.substring(0, n), -1000 - n);
        reads("q4;", -1000);
        reads("p4;q", -1003);
        reads(" p4;", -1000);
        reads("p4; p4;", -1003);
        reads("p;", -1001);
        reads("p44;", -1002);
        reads("p4h;", -1003);
        reads("p4h12;", -1004);
        reads("p4h1h1;", -1004);
        reads("r11;", -1002);
        reads("r1 12;", -1004);
        reads("v 1;", -1001);
        reads("v1  1;", -1003);
        reads("x0 1;", -1004);
        reads("x0 1 1;", -1004);
        reads("x0 111;", -1005);
        reads("u 1;", -1001);
        reads("u1;", -1002);
        reads("u01 1;", -1002);
        reads("u1234 1;", -1004);
        reads("u100 ;", -1005);
        reads("u1 11;", -1004);
        reads("u1 1ll;", -1005);
        reads("u1 1w;", -1005);
        reads("u1 1w5l;", -1006);
        reads("u1 1w05;", -1006);
        reads("u1 1w1000;", -1008);
        reads("U1 1;", -1000);
        WhoBacks w = new WhoBacks();
        w.row(0, 0, 3);
        due.is("a row of zeros", w.road(0), -1000);
        w.put(0, 0, 'p' + 256);
        w.put(0, 1, '5');
        w.put(0, 2, ';' - 256);
        due.is("lowest bits alone", w.road(0), 1);
        w.put(0, 1, '5' + 128);
        due.is("a byte below 0", w.road(0), -1001);
    }

    private static void statementsNotAsTold() {
        reads("p1;", -2000);
        reads("p0;", -2000);
        reads("p4h3;", -2000);
        reads("p4;p1;", -2003);
        reads("p1;p4;x", -1007);
        reads("p1;p0;", -2000);
        reads("p2;".repeat(8), 8);
        reads("p2;".repeat(9), -2024);
        reads("u0 1;".repeat(7), 7);
        reads("u0 1;".repeat(7) + "d0 1;", -2035);
        reads("r1 1;", -2000);
        reads("p2;r0 1;", -2003);
        reads("p2;r1 1;", -2003);
        reads("p2;r1 1;p2;", -2003);
        reads("p2;p2;r1 0;", 3);
        reads("p2;p2;r1 4;", 3);
        reads("p2;p2;r1 5;", -2006);
        reads("p2;p2;r2 1;", -2006);
        reads("p2;p2;r3 1;", -2006);
        reads("p2;v0 2;", 2);
        reads("v0 1;p2;", -2000);
        reads("p2;v0 3;", -2003);
        reads("p2;v1 0;", -2003);
        reads("x3 00;", -2000);
        reads("x0 80;", -2000);
        reads("x2 79;", 1);
        reads("u200 1;", -2000);
        reads("d0 4;", -2000);
        reads("d0 1w100;", -2000);
        reads("d0 1w99;", 1);
        WhoBacks w = Due.of("p3;p3;u0 1;");
        Due.road(w, "x0 11;v0 1;r1 2;p5;u5 2;p1;");
        due.is("nothing comes: count(0)", w.count(0), 2);
        due.is("nothing comes: count(1)", w.count(1), 1);
        due.is("nothing comes: room(1)", w.room(1), 1);
        due.is("nothing comes: village", w.village(0, 0), 0);
        due.is("nothing comes: piece", w.piece(0, 2), 0);
    }

    private static void minutesWentBy() {
        WhoBacks w = Due.of("p3;p3;u0 1;");
        w.go(1);
        due.is("p behind minutes", Due.road(w, "p2;"), -2000);
        due.is("r behind minutes", Due.road(w, "x0 10;r1 2;"), -2006);
        due.is("u behind minutes", Due.road(w, "u0 1;"), -2000);
        due.is("d behind minutes", Due.road(w, "d0 1;"), -2000);
        due.is("x, v behind minutes", Due.road(w, "x1 43;v1 1;"), 2);
        due.is("village(1, 1)", w.village(1, 1), 3);
        due.is("piece(1, 2)", w.piece(1, 2), 1);
        due.is("where(0, 0)", w.where(0, 0), 1);
        w.anew();
        due.is("p at minute 0 again", Due.road(w, "p2;r1 2;u0 1;d0 1;"), 4);
    }

    private static void shelfOfTheText() {
        WhoBacks w = new WhoBacks();
        due.is("road(-1)", w.road(-1), -1);
        due.is("road(8)", w.road(8), -1);
        due.is("road of nothing", w.road(3), -11);
        w.row(3, 1, 3);
        due.is("road of shorts", w.road(3), -12);
        w.row(3, 2, 3);
        due.is("road of ints", w.road(3), -12);
        w.keep(3, 1, 0, 0);
        due.is("road of a rule", w.road(3), -12);
    }

    private static void pieces() {
        WhoBacks w = Due.of("p4;p9h2;p2h1;v1 2;");
        int[][] want = { { 4, 0, 0, 0 }, { 9, 2, 2, 4 }, { 2, 1, 0, 13 } };
        for (int k = 0; k < 3; k++) {
            for (int what = 0; what < 4; what++) due.is("piece(" + k + ", " + what + ")", w.piece(k, what), want[k][what]);
        }
        due.is("piece(3, 0)", w.piece(3, 0), -1);
        due.is("piece(-1, 0)", w.piece(-1, 0), -1);
        due.is("piece(0, 4)", w.piece(0, 4), -1);
        due.is("piece(0, -1)", w.piece(0, -1), -1);
    }

    private static void rooms() {
        WhoBacks w = Due.of("p2;p2;p2;r2 0;");
        int[] want = { -4, 1, 0, -4 };
        for (int k = 0; k < 4; k++) due.is("room(" + k + ")", w.room(k), want[k]);
        due.is("room(4)", w.room(4), -1);
        due.is("room(-1)", w.room(-1), -1);
        Due.road(w, "p2;");
        due.is("room(3), no more the last", w.room(3), 1);
        due.is("room(4)", w.room(4), -4);
    }

    private static void carts() {
        WhoBacks w = Due.of("p2;u199 3lw99;d7 0;");
        int[][] want = { { 1, 199, 1, 3, 99 }, { 0, 7, 0, 0, 0 } };
        for (int k = 0; k < 2; k++) {
            for (int what = 0; what < 5; what++) due.is("cart(" + k + ", " + what + ")", w.cart(k, what), want[k][what]);
        }
        due.is("cart(2, 0)", w.cart(2, 0), -1);
        due.is("cart(-1, 0)", w.cart(-1, 0), -1);
        due.is("cart(0, 5)", w.cart(0, 5), -1);
        due.is("cart(0, -1)", w.cart(0, -1), -1);
    }

    private static void backs() {
        WhoBacks w = Due.of("u0 1;d0 3;");
        due.is("backs(0, 2)", w.backs(0, 2), 1);
        due.is("backs(0, 0)", w.backs(0, 0), 2);
        due.is("backs(0, 3)", w.backs(0, 3), 0);
        due.is("backs(0, 4)", w.backs(0, 4), -1);
        due.is("backs(0, -1)", w.backs(0, -1), -1);
        due.is("backs(2, 0)", w.backs(2, 0), -1);
        due.is("backs(-1, 0)", w.backs(-1, 0), -1);
        due.is("cart(0, 3)", w.cart(0, 3), 3);
        due.is("cart(1, 3)", w.cart(1, 3), 3);
    }

    private static void villagesAndRules() {
        WhoBacks w = Due.of("x1 68;");
        due.is("village(1, 0)", w.village(1, 0), 6);
        due.is("village(1, 1)", w.village(1, 1), 8);
        due.is("village(3, 0)", w.village(3, 0), -1);
        due.is("village(-1, 0)", w.village(-1, 0), -1);
        due.is("village(0, 2)", w.village(0, 2), -1);
        due.is("village(0, -1)", w.village(0, -1), -1);
        w.keep(4, 1, 7, 9);
        due.is("rule(4, 2)", w.rule(4, 2), 7);
        due.is("village(2, 0)", w.village(2, 0), 7);
        due.is("village(2, 1)", w.village(2, 1), 9);
        due.is("village(0, 0)", w.village(0, 0), 0);
        due.is("rule(4, 3)", w.rule(4, 3), -1);
        due.is("rule(4, -1)", w.rule(4, -1), -1);
        due.is("rule(8, 0)", w.rule(8, 0), -1);
        due.is("rule(-1, 0)", w.rule(-1, 0), -1);
        due.is("rule(5, 3): -1 goes ahead of -11", w.rule(5, 3), -1);
        due.is("rule(5, 0)", w.rule(5, 0), -11);
        w.row(5, 0, 1);
        due.is("rule of a row", w.rule(5, 0), -12);
        due.is("words(4): the rule stays there", w.words(4), 5);
        w.keep(4, 1, 0, 0);
        due.is("another rule on the shelf changes no village", w.village(2, 0), 7);
    }
}
