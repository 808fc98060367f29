/** Promises 9 to 15, and the MINUTE of section 3: runs gone through by hand, but where told. */
public final class PromisesOfMinutes {
    private static final Due due = new Due();

    public static void main(String[] args) {
        oneBacksToItsEnd();
        neitherCanBack();
        slowOnHills();
        placeWithoutRoom();
        toldToBackAtAPlace();
        goingAgainAtAPlace();
        oneBehindBacksToo();
        hour();
        bell();
        best();
        goAndAnew();
        minute999();
        whereAndState();
        enters();
        yields();
        judge();
        due.end("PromisesOfMinutes");
    }

    private static void oneBacksToItsEnd() {
        String text = "p4;u0 1;d0 2;";
        due.ends(text, 9, 1, 2, 2, 0, 1);
        due.goes(text, 0, 1, 2, 2, 3, -3, -3);
        due.goes(text, 1, 3, 3, 4, 4, 4, 3, 2, 1, -3);
        WhoBacks w = Due.of(text);
        int[] backing = { 0, 1, 1, 1, 0, 0 };
        int[] left = { 0, 0, 1, 0, 0, 0 };
        for (int i = 0; i < 6; i++) {
            w.go(1);
            due.is("backing behind " + (i + 1), w.where(1, 1), backing[i]);
            due.is("left behind " + (i + 1), w.where(1, 2), left[i]);
        }
        due.is("backed by 1", w.where(1, 3), 1);
        due.is("waited by 1", w.where(1, 4), 1);
        due.is("backed by 0", w.where(0, 3), 0);
        due.is("waited by 0", w.where(0, 4), 1);
        due.ends("p4;u0 1;d0 0;", 9, 2, 1, 2, 0, 1);
    }

    private static void neitherCanBack() {
        due.ends("p4;u0 0;d0 0;", 62, 0, 121, 0, 1, 121);
        due.ends("p3;u0 0;d0 0;", 61, 0, 120, 0, 1, 120);
        WhoBacks w = Due.of("p3;u0 0;d0 0;");
        w.go(60);
        due.is("59 minutes without a step don't stand", w.state(4), 0);
        w.go(1);
        due.is("60 do", w.state(4), 1);
        // a cart that is still ahead: nothing stands till it came; it takes no step, and all stand at once
        due.ends("p3;u0 0;d0 0;u90 0;", 91, 0, 90 + 90 + 1, 0, 1, 180);
        // one that comes and takes a step first
        due.ends("p3;p3;r1 0;u0 0;d90 0;", 91 + 2 + 60 - 1, 0, 150 + 60, 0, 1, 0);
    }

    private static void slowOnHills() {
        due.ends("p3;u0 0l;", 3, 0, 0, 1, 0, 0);
        due.ends("p3h1;u0 0l;", 5, 0, 0, 1, 0, 0);
        due.ends("p3h1;u0 0;", 3, 0, 0, 1, 0, 0);
        due.ends("p3h1;d0 0l;", 3, 0, 0, 1, 0, 0);
        due.ends("p3h2;d0 0l;", 5, 0, 0, 1, 0, 0);
        due.ends("p3h2;u0 0l;", 3, 0, 0, 1, 0, 0);
        due.goes("p3h1;p2;u0 0l;", 0, 1, 1, 2, 2, 3, 3, 4, -3);
        WhoBacks w = Due.of("p3h1;p2;u0 0l;");
        w.go(1);
        due.is("left of a slow step", w.where(0, 2), 1);
        w.go(1);
        due.is("nothing left of it", w.where(0, 2), 0);
        // backing takes BACKS alone: the loaded one goes back uphill
        due.ends("p4h1;u0 1;d0 1l;", 8, 1, 2, 2, 0, 1);
    }

    private static void placeWithoutRoom() {
        due.ends("p2;p2;r1 0;u0 0;", 61, 0, 60, 0, 1, 0);
        due.ends("p2;p2;r1 1;u0 0;", 4, 0, 0, 1, 0, 0);
        due.ends("p2;p2;p2;r2 0;u0 0;d0 0;", 63, 0, 60 + 62, 0, 1, 0);
    }

    private static void toldToBackAtAPlace() {
        due.ends("p3;p3;u0 1;d0 1;", 12, 2, 2, 2, 0, 1);
        String text = "p3;p3;x0 10;u0 1;d0 1w9;";
        due.ends(text, 13, 3, 1, 2, 0, 1);
        due.goes(text, 0, 1, 2, 3, 2, 1, 0, 0, 1);
        due.goes(text, 1, 5, 4, 4, 3, 2, 1, -3);
    }

    private static void goingAgainAtAPlace() {
        String text = "p3;p3;x0 10;u0 1;d2 1w9;";
        due.ends(text, 16, 4, 2, 2, 0, 2);
        due.goes(text, 0, 1, 2, 3, 4, 3, 3, 2, 1, 0, 0, 1);
        due.goes(text, 1, -2, -2, 5, 5, 4, 4, 3, 2, 1, -3);
        due.ends("p3;p3;x0 10;r1 2;u0 1;d2 1w9;", 9, 1, 1, 2, 0, 1);
    }

    private static void oneBehindBacksToo() {
        String text = "p6;d0 1;u0 1;u0 1;";
        due.ends(text, 15, 4, 9, 3, 0, 2);
        due.goes(text, 0, 5, 4, 3, 3, 3, 2, 2, 1, -3);
        due.goes(text, 1, 1, 2, 2, 2, 1, 0, 0, 0, 1, 2, 3, 4, 5, -3);
        due.goes(text, 2, 0, 1, 1, 0, 0, 1, 0, 0, 0, 1);
    }

    private static void hour() {
        due.ends("p3;x0 30;u0 0;d0 0;", 13, 0, 10, 2, 0, 0);
        due.ends("p2;x0 30;u15 0;", 22, 0, 5, 1, 0, 0);
        due.ends("p2;x0 31;u15 0;", 17, 0, 0, 1, 0, 0);
        due.ends("p2;x0 39;d0 0;", 60, 0, 60, 0, 1, 0);
        due.ends("p2;x0 34;d0 0;", 52, 0, 50, 1, 0, 0);
        // at a place between no hour is kept
        due.ends("p9;p2;x0 30;u0 0;", 11, 0, 0, 1, 0, 0);
    }

    private static void bell() {
        due.ends("p3;x0 40;u0 1;d0 1;", 5, 0, 2, 2, 0, 0);
        due.ends("p3;x0 40;d0 0;u1 0;d1 0;", 7, 0, 3, 3, 0, 0);
        due.ends("p3;x0 41;d0 0;u1 0;d1 0;", 63, 0, 124, 1, 1, 0);
        // one of the own way is not heard
        due.ends("p3;x0 49;u0 0;u1 0;", 4, 0, 0, 2, 0, 0);
    }

    private static void best() {
        due.ends("p2;p2;x0 50;u0 0;u1 0;", 6, 0, 1, 2, 0, 0);
        due.ends("p2;p2;x0 40;u0 0;u1 0;", 5, 0, 0, 2, 0, 0);
        due.ends("p2;p2;r1 2;x0 50;u0 0;u1 0;", 5, 0, 0, 2, 0, 0);
        due.ends("p3;x0 50;u0 1;d0 1;", 5, 0, 2, 2, 0, 0);
    }

    private static void goAndAnew() {
        WhoBacks w = Due.of("p2;");
        due.is("go without carts", w.go(1), -3);
        w = Due.of("u0 0;");
        due.is("go without pieces", w.go(1), -3);
        due.is("go(0) goes ahead of -3", w.go(0), -1);
        w = Due.of("p9;u0 1;d3 1;");
        due.is("go(0)", w.go(0), -1);
        due.is("go(-1)", w.go(-1), -1);
        due.is("go(201)", w.go(201), -1);
        due.is("go(2)", w.go(2), 2);
        due.is("go(2)", w.go(2), 4);
        w.go(5);
        due.is("anew()", w.anew(), 2);
        for (int what = 0; what <= 5; what++) due.is("anew: state(" + what + ")", w.state(what), 0);
        for (int k = 0; k < 2; k++) {
            due.is("anew: where(" + k + ", 0)", w.where(k, 0), -2);
            for (int what = 1; what <= 4; what++) due.is("anew: where(" + k + ", " + what + ")", w.where(k, what), 0);
        }
        due.is("anew: go(200)", w.go(200), Due.of("p9;u0 1;d3 1;").go(200));
        due.is("anew() of nothing", new WhoBacks().anew(), 0);
    }

    private static void minute999() {
        // carts that go to and fro for ever: found by a search, not by hand
        WhoBacks w = Due.of("p2;p2;p3;x0 23;d7 2lw0;u2 2lw5;d0 3lw0;u1 2w5;d8 1lw3;");
        for (int i = 1; i <= 4; i++) due.is("go(200)", w.go(200), 200 * i);
        due.is("go(198)", w.go(198), 998);
        due.is("go(200) up to minute 999", w.go(200), 999);
        due.is("it doesn't stand", w.state(4), 0);
        due.is("it ended", w.go(1), -3);
        int spot = w.where(0, 0);
        Due.ints(w, 1, spot, spot, spot, spot, spot, spot, spot, spot, spot, spot, spot, spot);
        due.is("what ended stays when judged", w.judge(0, 1), -4);
        w.row(1, 0, 0);
        due.is("a run ends then, too", w.run(1, 3), 999);
        due.is("its cost", w.run(1, 0), w.state(1) + w.state(2));
    }

    private static void whereAndState() {
        WhoBacks w = Due.of("p2;u0 0;");
        due.is("where(1, 0)", w.where(1, 0), -1000000001);
        due.is("where(-1, 0)", w.where(-1, 0), -1000000001);
        due.is("where(0, 5)", w.where(0, 5), -1000000001);
        due.is("where(0, -1)", w.where(0, -1), -1000000001);
        due.is("where(0, 0)", w.where(0, 0), -2);
        due.is("state(6)", w.state(6), -1);
        due.is("state(-1)", w.state(-1), -1);
    }

    private static void enters() {
        WhoBacks w = Due.of("p3;p3;v1 1;u0 0;d0 0;u9 0;");
        due.is("enters: ahead", w.enters(0), -3);
        due.is("enters(3)", w.enters(3), -1);
        due.is("enters(-1)", w.enters(-1), -1);
        w.go(2);
        due.is("enters: within a piece", w.enters(0), -3);
        w.go(1);
        due.is("it is at the place between", w.where(0, 0), 3);
        due.is("enters by a rule", w.enters(0), 1);
        Due.road(w, "x0 40;");
        due.is("the piece behind it matters not", w.enters(0), 1);
        Due.road(w, "x1 40;");
        due.is("enters by a bell: the other is within", w.enters(0), 0);
        Due.road(w, "x1 30;");
        due.is("enters by an hour, at no end", w.enters(0), 1);
        w = Due.of("p2;d0 0;x0 30;");
        w.go(5);
        due.is("enters by an hour, at its end", w.enters(0), 0);
        w.go(5);
        due.is("enters by an hour, minute 10", w.enters(0), 1);
        w = Due.of("p2;p2;p2;x0 59;u0 0;u0 0;");
        w.go(2);
        due.is("cart 0 is at place 1, of room 1", w.enters(1), 0);
        due.is("place 2 is free", w.enters(0), 1);
        w = Due.of("p4;p4;x0 31;d0 0;u0 0;x0 40;v1 1;x1 41;");
        w.go(2);
        due.is("cart 1 at spot 2, cart 0 at 6", w.where(0, 0) * 10 + w.where(1, 0), 62);
        w.go(2);
        // both want to place 1, of room 1: cart 0 came first, cart 1 waits below it
        due.is("cart 0 at place 1", w.where(0, 0), 4);
        due.is("cart 0 hears cart 1 within piece 0", w.enters(0), 0);
    }

    /** A text that makes the rules of villages 0, 1, 2. */
    private static void yieldsBy(WhoBacks w, int a, int b, int... wantByKind) {
        for (int kind = 0; kind < 8; kind++) {
            w.keep(7, 1, kind, 0);
            w.rule(7, 2);
            due.is("yields(" + a + ", " + b + ") by kind " + kind, w.yields(a, b, 2), wantByKind[kind]);
        }
    }

    private static void yields() {
        WhoBacks w = Due.of("p6h1;u0 2w5;d0 1lw3;");
        due.is("yields: ahead", w.yields(0, 1, 0), -3);
        w.go(2);
        // cart 0 at 2, cart 1 at 4: each 2 spots from the place behind it
        yieldsBy(w, 0, 1, 1, 1, 1, 1, 1, 1, 0, 1);
        yieldsBy(w, 1, 0, 1, 1, 1, 1, 1, 1, 0, 1);
        w.backs(1, 0);
        yieldsBy(w, 0, 1, 0, 0, 0, 0, 0, 0, 0, 0);
        w.backs(0, 0);
        yieldsBy(w, 0, 1, -4, -4, -4, -4, -4, -4, -4, -4);
        due.is("yields(0, 0, 0)", w.yields(0, 0, 0), -1);
        due.is("yields(0, 2, 0)", w.yields(0, 2, 0), -1);
        due.is("yields(-1, 0, 0)", w.yields(-1, 0, 0), -1);
        due.is("yields(0, 1, 3)", w.yields(0, 1, 3), -1);
        due.is("yields(0, 1, -1)", w.yields(0, 1, -1), -1);

        w = Due.of("p6h2;u0 3w3;d1 1w5;");
        w.go(2);
        // cart 0 at 2, cart 1 at 5: 2 and 1 spots, 6 and 1 minutes; cart 0's way falls
        yieldsBy(w, 0, 1, 1, 0, 1, 1, 1, 1, 0, 0);

        w = Due.of("p4;p6h2;u0 1;d0 1;u0 1;");
        w.go(4);
        // cart 0 at place 1 (spot 4), cart 1 at 6: asked of cart 0 there is no hill
        due.is("cart 0 at 4", w.where(0, 0), 4);
        due.is("cart 1 at 6", w.where(1, 0), 6);
        yieldsBy(w, 0, 1, 1, 1, 0, 1, 1, 0, 1, 0);
        // asked of cart 1 within the piece: its way rises, cart 0's falls
        yieldsBy(w, 1, 0, 1, 1, 0, 1, 1, 0, 1, 0);
        due.is("both go the same way", w.yields(0, 2, 0), -3);

        w = Due.of("p6h2;p4;u0 1;d0 1;");
        w.go(4);
        // cart 0 at 4 in piece 0 (4 spots), cart 1 at place 1 (spot 6): 0 spots
        yieldsBy(w, 1, 0, 1, 1, 1, 1, 1, 1, 1, 1);
        yieldsBy(w, 0, 1, 1, 1, 1, 1, 1, 1, 1, 0);

        w = Due.of("p6h2;u0 1;u0 1;d0 1;");
        w.go(1);
        // cart 1 at place 0: no hill; cart 0 within: its way falls; cart 2 one spot from its place
        yieldsBy(w, 1, 2, 2, 2, 1, 2, 2, 1, 2, 1);
        yieldsBy(w, 2, 1, 2, 2, 1, 2, 2, 1, 2, 1);
        yieldsBy(w, 0, 2, 2, 2, 2, 2, 2, 2, 2, 0);
        w = Due.of("p6h1;u0 1;u0 1;d0 1;");
        w.go(1);
        yieldsBy(w, 1, 2, 2, 2, 1, 2, 2, 1, 2, 1);
        yieldsBy(w, 2, 1, 2, 2, 1, 2, 2, 1, 2, 2);

        w = Due.of("p4;u0 0w1;d0 1w2;u0 1l;");
        w.go(1);
        // cart 0 can't back: 0 minutes back are the fewest, but the other does
        yieldsBy(w, 0, 1, 1, 1, 1, 1, 1, 1, 1, 1);
        // cart 2 at 0: 0 spots; loaded, against one that isn't
        yieldsBy(w, 1, 2, 2, 2, 2, 2, 2, 2, 1, 2);
    }

    private static void judge() {
        WhoBacks w = Due.of("p4;u0 1;d0 2;");
        Due.ints(w, 1, 3, 3, 4, 4, 4, 3, 2, 1, -3, -3, -3);
        due.is("judge(1, 1): all so", w.judge(1, 1), -4);
        due.is("in mind: the minute stays", w.state(0), 0);
        due.is("judge(0, 1)", w.judge(0, 1), 0);
        w.put(1, 5, Integer.MIN_VALUE);
        due.is("judge: skipped", w.judge(1, 1), -4);
        w.put(1, 5, -128);
        due.is("judge: the least byte in a row of ints", w.judge(1, 1), 5);
        w.row(2, 0, 3);
        w.put(2, 0, -128);
        w.put(2, 1, 3);
        w.put(2, 2, 3);
        due.is("judge by bytes", w.judge(1, 2), 2);
        w.row(2, 1, 2);
        w.put(2, 0, -32768);
        w.put(2, 1, 3);
        due.is("judge by shorts", w.judge(1, 2), -4);
        w.row(2, 1, 0);
        due.is("judge by no element", w.judge(1, 2), -4);
        w.go(5);
        Due.ints(w, 1, 3, 2, 1, -3);
        due.is("judge from now on", w.judge(1, 1), -4);
        w.go(200);
        Due.ints(w, 1, -3, -3, 0);
        due.is("judge what ended", w.judge(1, 1), 2);
        w = Due.of("p3;u2 0;");
        Due.ints(w, 1, -2, -2, 1, 2, -3);
        due.is("judge one ahead", w.judge(0, 1), -4);
        due.is("judge(1, 1)", w.judge(1, 1), -1);
        due.is("judge(-1, 1)", w.judge(-1, 1), -1);
        due.is("judge(0, 8)", w.judge(0, 8), -1);
        due.is("judge(0, -1)", w.judge(0, -1), -1);
        due.is("judge by nothing", w.judge(0, 5), -11);
        w.keep(5, 1, 0, 0);
        due.is("judge by a rule", w.judge(0, 5), -12);
        w = Due.of("u0 0;");
        due.is("judge without pieces, by nothing", w.judge(0, 5), -11);
        due.is("judge without pieces", w.judge(0, 0), -3);
    }
}
