/** Promises 16 to 26: runs in mind. */
public final class PromisesInMind {
    private static final Due due = new Due();
    /** Two that meet, the greater number backs: cost 3, end 9 (see PromisesOfMinutes). */
    private static final String ONE_BACKS = "p4;u0 1;d0 2;";

    public static void main(String[] args) {
        run();
        ever();
        best();
        more();
        fit();
        shortest();
        hours();
        stubborn();
        heard();
        days();
        met();
        nothingChanges();
        due.end("PromisesInMind");
    }

    private static WhoBacks noPieces() { return Due.of("u0 1;d0 1;"); }

    private static WhoBacks noCarts() { return Due.of("p3;"); }

    private static void run() {
        WhoBacks w = Due.of(ONE_BACKS);
        w.go(5);
        w.row(1, 0, 0);
        int[] onTime = { 3, 1, 2, 9, 0 };
        for (int what = 0; what <= 4; what++) due.is("run on time, " + what, w.run(1, what), onTime[what]);
        w = Due.of("p3;u0 0;d3 0;");
        Due.ints(w, 1, 3);
        int[] stands = { 1000 + 120, 0, 120, 64, 1 };
        for (int what = 0; what <= 4; what++) due.is("run that stands, " + what, w.run(1, what), stands[what]);
        Due.ints(w, 1, 0, 197);
        due.is("a start above 199", w.run(1, 3), 203);
        Due.ints(w, 1, 200, 0);
        due.is("the first late by 200", w.run(1, 3), 203);
        Due.ints(w, 1, 0, 0, 5);
        due.is("more elements than carts", w.run(1, 3), 6);
        for (int late : new int[] { -1, 201, Integer.MIN_VALUE, Integer.MAX_VALUE }) {
            Due.ints(w, 1, 0, late);
            due.is("late by " + late, w.run(1, 0), -13);
        }
        due.is("run(1, 5)", w.run(1, 5), -1);
        due.is("run(1, -1)", w.run(1, -1), -1);
        due.is("run(8, 0)", w.run(8, 0), -1);
        due.is("run(-1, 0)", w.run(-1, 0), -1);
        due.is("run by nothing", w.run(2, 0), -11);
        w.keep(2, 1, 0, 0);
        due.is("run by a rule", w.run(2, 0), -12);
        for (WhoBacks empty : new WhoBacks[] { noPieces(), noCarts() }) {
            due.is("run by nothing, of nothing", empty.run(2, 0), -11);
            empty.row(2, 1, 1);
            due.is("run of nothing", empty.run(2, 0), -3);
            empty.put(2, 0, 201);
            due.is("-13 goes ahead of -3", empty.run(2, 0), -13);
        }
    }

    private static void ever() {
        due.is("both stand at once", Due.of("p3;u0 0;d0 0;").ever(0), 0);
        due.is("late by 3", Due.of("p3;u0 0;d3 0;").ever(0), 3);
        due.is("never", Due.of("p3;u0 0;d3 0;").ever(1), -4);
        due.is("late by 40", Due.of("p3;u0 0;d40 0;").ever(0), 40);
        due.is("late by 41", Due.of("p3;u0 0;d41 0;").ever(0), -4);
        WhoBacks w = Due.of("p3;u0 0;d3 0;");
        due.is("ever(2)", w.ever(2), -1);
        due.is("ever(-1)", w.ever(-1), -1);
        due.is("ever without pieces", noPieces().ever(1), -3);
        due.is("ever without carts", noCarts().ever(0), -1);
    }

    private static void best() {
        WhoBacks w = Due.of("p2;u0 0;d0 0;");
        due.is("best(0)", w.best(0), 1);
        due.is("best(1)", w.best(1), 0);
        w = Due.of("p2;u0 0;");
        due.is("of one cart", w.best(0), 0);
        // carts 4 and 5 stand for ever, 0 to 3 wait from their start on till the last of them came
        w = Due.of("p3;u100 0;u110 0;u120 0;u130 0;u0 0;d0 0;");
        due.is("digits of four", w.best(0), 3 + 4 * 3 + 16 * 2);
        due.is("their cost", w.best(1), 1000 + 2 * 130 + (131 - 115) + (131 - 125) + 1 + 1);
        due.is("best(2)", w.best(2), -1);
        due.is("best(-1)", w.best(-1), -1);
        due.is("best without pieces", noPieces().best(0), -3);
        due.is("best without carts", noCarts().best(1), -3);
    }

    private static void more() {
        WhoBacks w = Due.of("p3;p3;x0 10;u0 1;d2 1w9;");
        due.is("more(0)", w.more(0), 1);
        due.is("more(1)", w.more(1), 2);
        w = Due.of("p2;p2;p2;r1 0;u0 0;");
        due.is("the place without room", w.more(0), 1);
        due.is("no cost then", w.more(1), 0);
        w = Due.of("p2;p2;p2;r2 0;u0 0;");
        due.is("the other place without room", w.more(0), 2);
        w = Due.of("p2;p2;p2;u0 0;");
        due.is("of several the least", w.more(0), 1);
        w = Due.of("p2;p2;p2;r1 4;u0 0;");
        due.is("none of room 4", w.more(0), 2);
        w = Due.of("p2;p2;r1 4;u0 0;");
        due.is("there is none", w.more(0), -4);
        due.is("there is none, its cost", w.more(1), -4);
        w = Due.of("p2;p2;p2;r1 0;r2 0;u0 0;");
        due.is("it stands with either", w.more(1), 1000 + 60);
        due.is("more(2)", w.more(2), -1);
        due.is("more(-1)", w.more(-1), -1);
        due.is("more without pieces", noPieces().more(0), -3);
        due.is("more without carts", noCarts().more(0), -3);
    }

    private static int fitOf(WhoBacks w, int figure, int... kinds) {
        w.row(1, 0, kinds.length);
        for (int i = 0; i < kinds.length; i++) w.put(1, i, kinds[i]);
        return w.fit(1, figure);
    }

    private static void fit() {
        WhoBacks w = Due.of("p3;u0 0;d0 0;");
        due.is("the bell, not the rule, not the hour", fitOf(w, 0, 0, 4, 3), 1);
        due.is("of several the first", fitOf(w, 0, 3, 0, 4, 4, 5), 2);
        due.is("alone", fitOf(w, 9, 7), 0);
        // an HOUR of 20 minutes lets the one up go at minute 15, one of 10 doesn't
        WhoBacks hour = Due.of("p2;u15 0;");
        due.is("by figure 0", fitOf(hour, 0, 3, 4), 1);
        due.is("by figure 1", fitOf(hour, 1, 3, 4), 0);
        due.is("fit of none", fitOf(w, 0), -13);
        due.is("fit of no kind", fitOf(w, 0, 0, 8), -13);
        due.is("fit of no kind", fitOf(w, 0, -1, 0), -13);
        due.is("fit(1, 10)", w.fit(1, 10), -1);
        due.is("fit(1, -1)", w.fit(1, -1), -1);
        due.is("fit(8, 0)", w.fit(8, 0), -1);
        due.is("fit by nothing", w.fit(5, 0), -11);
        w.row(5, 1, 1);
        due.is("fit by shorts", w.fit(5, 0), -12);
        w.keep(5, 1, 1, 1);
        due.is("fit by a rule", w.fit(5, 0), -12);
        due.is("fit without pieces", fitOf(noPieces(), 0, 1), -3);
        due.is("fit without carts", fitOf(noCarts(), 0, 1), -3);
        due.is("-13 goes ahead of -3", fitOf(noCarts(), 0), -13);
    }

    private static void shortest() {
        due.is("the rule itself", Due.of(ONE_BACKS).shortest(), 0);
        due.is("an hour", Due.of("p3;u0 0;d0 0;").shortest(), 30);
        due.is("there is none", Due.of("p2;p2;r1 0;u0 0;").shortest(), -4);
        // spells of 10, 20, 30 minutes let the second in while the first is still on the road
        due.is("a bell", Due.of("p9;p9;p9;p9;r1 2;r2 2;r3 2;u0 0;d5 0;").shortest(), 40);
        due.is("shortest without pieces", noPieces().shortest(), -3);
        due.is("shortest without carts", noCarts().shortest(), -3);
    }

    private static void hours() {
        WhoBacks w = Due.of("p2;u15 0;");
        due.is("hours(0)", w.hours(0), 1);
        due.is("hours(1)", w.hours(1), 0);
        w = Due.of("p2;d0 0;");
        due.is("one down: hours(0)", w.hours(0), 0);
        due.is("one down: hours(1)", w.hours(1), 10);
        w = Due.of("p2;u95 0;");
        // spells of 20 (95 / 20 = 4), 100 and more let it go at once, and so does FIGURE 1 first
        due.is("of several the least", w.hours(0), 1);
        w = Due.of("p2;u0 0;d95 0;x0 39;");
        due.is("down at 95: spells of 10", w.hours(0), 0);
        w = Due.of("p2;u0 0;u90 0;u180 0;");
        // 90 is odd by spells of 10, 30 (3), 90 (1); 180 by 20 (9), 60 (3), 100 (1): 40 is even for all
        due.is("up at 0, 90 and 180", w.hours(0), 3);
        w = Due.of("p2;u65 0;u95 0;");
        // every spell below 100 minutes stops one of them
        due.is("up at 65 and 95", w.hours(0), 9);
        due.is("up at 65 and 95, the cost", w.hours(1), 0);
        due.is("hours(2)", w.hours(2), -1);
        due.is("hours(-1)", w.hours(-1), -1);
        due.is("hours without pieces", noPieces().hours(0), -3);
        due.is("hours without carts", noCarts().hours(0), -3);
    }

    private static void stubborn() {
        WhoBacks w = Due.of("p4;u0 1;d0 0;");
        due.is("then both stand", w.stubborn(0), 1121 - 3);
        due.is("it can't anyway", w.stubborn(1), 0);
        w = Due.of("p9;u0 3;d0 3;");
        due.is("the told one can't: the other backs", w.stubborn(0), 0);
        w = Due.of("p3;p3;x0 10;u0 1;d2 1w9;");
        due.is("the other, nearer to its place, backs in its stead", w.stubborn(0), costOf("p3;p3;x0 10;u0 0;d2 1w9;") - 6);
        due.is("stubborn(2)", w.stubborn(2), -1000000001);
        due.is("stubborn(-1)", w.stubborn(-1), -1000000001);
        due.is("stubborn without pieces", noPieces().stubborn(0), -1000000003);
        due.is("stubborn without carts", noCarts().stubborn(0), -1000000001);
    }

    private static int costOf(String text) {
        WhoBacks w = Due.of(text);
        w.go(200);
        return w.state(1) + w.state(2) + 1000 * w.state(4);
    }

    private static void heard() {
        WhoBacks w = Due.of("p3;d0 0;u1 0;d1 0;");
        due.is("hearing makes all stand", w.heard(1), 3 - 1124);
        due.is("heard(9)", w.heard(9), 3 - 1124);
        due.is("heard(0)", w.heard(0), 0);
        due.is("heard(10)", w.heard(10), -1000000001);
        due.is("heard(-1)", w.heard(-1), -1000000001);
        due.is("heard without pieces", noPieces().heard(0), -1000000003);
        due.is("heard without carts", noCarts().heard(0), -1000000003);
    }

    /** One cart down by an HOUR of 10 minutes: it waits till the next odd spell. */
    private static int waitsFrom(int start) { return start / 10 % 2 == 0 ? 10 - start % 10 : 0; }

    private static void days() {
        WhoBacks w = Due.of("p2;x0 30;d0 0;d3 0;");
        for (int z : new int[] { 0, 7, -5, Integer.MAX_VALUE, Integer.MIN_VALUE, 123456789 }) {
            for (int m = 1; m <= 5; m++) {
                long want = 0;
                for (int day = 0; day < m; day++) {
                    int first = (z + day) * 1103515245 + 12345;
                    int second = first * 1103515245 + 12345;
                    int one = (int) ((first & 0x7fffffffL) / 65536 % 60);
                    int other = 3 + (int) ((second & 0x7fffffffL) / 65536 % 60);
                    int onTheirOwn = waitsFrom(one) + waitsFrom(other);
                    // at one minute the second finds the first's spot taken, and waits one more
                    boolean atOnce = one + waitsFrom(one) == other + waitsFrom(other);
                    want += onTheirOwn + (atOnce ? 1 : 0);
                }
                due.is("days(" + m + ", 60, " + z + ")", w.days(m, 60, z), want);
            }
        }
        due.is("late by less than 1", w.days(5, 1, 99), 5 * (10 + 7 + 1));
        due.is("days(0, 1, 1)", w.days(0, 1, 1), -1);
        due.is("days(6, 1, 1)", w.days(6, 1, 1), -1);
        due.is("days(1, 0, 1)", w.days(1, 0, 1), -1);
        due.is("days(1, 61, 1)", w.days(1, 61, 1), -1);
        due.is("days without pieces", noPieces().days(1, 1, 1), -3);
        due.is("days without carts", noCarts().days(1, 1, 1), -3);
        due.is("-1 goes ahead of -3", noCarts().days(0, 1, 1), -1);
    }

    private static void met() {
        WhoBacks w = Due.of(ONE_BACKS);
        due.is("met(0, 1)", w.met(0, 1), 1);
        due.is("met(1, 0)", w.met(1, 0), 1);
        w = Due.of("p6;d0 1;u0 1;u0 1;");
        due.is("met(0, 1)", w.met(0, 1), 2);
        due.is("met(0, 2)", w.met(0, 2), 6);
        due.is("met(1, 2): they go the same way", w.met(1, 2), -4);
        due.is("met(0, 0)", w.met(0, 0), -1);
        due.is("met(0, 3)", w.met(0, 3), -1);
        due.is("met(-1, 0)", w.met(-1, 0), -1);
        due.is("met without pieces", noPieces().met(0, 1), -3);
        due.is("met without carts", noCarts().met(0, 1), -1);
    }

    private static void nothingChanges() {
        WhoBacks w = Due.of("p3;p3;x0 12;x1 34;v1 1;u0 1w3;d2 1lw9;");
        w.go(3);
        w.row(1, 0, 2);
        w.put(1, 0, 7);
        String before = told(w);
        w.run(1, 0);
        w.ever(0);
        w.best(0);
        w.more(0);
        w.fit(1, 3);
        w.shortest();
        w.hours(0);
        w.stubborn(0);
        w.heard(3);
        w.days(2, 9, 4);
        w.met(0, 1);
        w.judge(0, 1);
        due.is("runs in mind change nothing", before.equals(told(w)) ? 1 : 0, 1);
        due.is("and it goes on as it would have", w.go(200), Due.of("p3;p3;x0 12;x1 34;v1 1;u0 1w3;d2 1lw9;").go(200));
    }

    private static String told(WhoBacks w) {
        StringBuilder s = new StringBuilder();
        for (int i = 0; i < 6; i++) {
            s.append(w.state(i)).append(' ').append(w.count(i)).append(' ').append(w.village(i, 0)).append(w.village(i, 1));
            for (int k = 0; k < 2; k++) s.append(' ').append(w.cart(k, i)).append(' ').append(w.where(k, i)).append(' ').append(w.piece(k, i));
            s.append(' ').append(w.room(i));
        }
        return s.toString();
    }
}
