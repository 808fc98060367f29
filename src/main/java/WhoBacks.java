/** A road one cart broad: who goes in, who backs, and what it costs. README.md tells how to use it. */
public final class WhoBacks {
    private static final int MOST_PIECES = 8;
    private static final int MOST_STEPS = 9;
    private static final int MOST_SPOTS = MOST_PIECES * MOST_STEPS + 1;
    private static final int MOST_ROOM = 4;
    private static final int MOST_CARTS = 7;
    private static final int MOST_BACKS = 3;
    private static final int VILLAGES = 3;
    private static final int SHELVES = 8;
    private static final int MOST_ELEMENTS = 100;

    private static final int KINDS = 8;
    private static final int SORTED = 1;
    private static final int NEAR = 2;
    private static final int HOUR = 3;
    private static final int BELL = 4;
    private static final int BEST = 5;
    private static final int TOLD = 6;
    private static final int HILLED = 7;
    private static final int MOST_FIGURE = 9;

    private static final int AHEAD = -2;
    private static final int DONE = -3;
    private static final int LAST_MINUTE = 999;
    private static final int STILL_MINUTES = 60;
    private static final int COST_OF_STANDING = 1000;

    private static final int WRONG = -1;
    private static final int NOT_NOW = -3;
    private static final int NONE = -4;
    private static final int NOTHING_HELD = -11;
    private static final int OTHER_KIND = -12;
    private static final int NO_PLACE = -13;
    private static final int BELOW_0 = -14;
    private static final int NO_FAILURE = -15;
    /** Refusals go so much lower where answers may be below 0 themselves. */
    private static final int LOWER = -1000000000;

    private final Traffic now = new Traffic();
    private final Traffic kept = new Traffic();
    private final Traffic mind = new Traffic();
    private boolean hasImage;
    private final Shelf[] shelves = new Shelf[SHELVES];
    private final Least least = new Least();
    private final Reader reader = new Reader();
    private final Passing passing = new Passing();

    public WhoBacks() {
        for (int d = 0; d < SHELVES; d++) shelves[d] = new Shelf();
    }

    // ---- roads

    public int road(int d) {
        Shelf text = shelfAt(d);
        if (text == null) return WRONG;
        if (text.holds == Shelf.NOTHING) return NOTHING_HELD;
        if (!text.holdsBytes()) return OTHER_KIND;
        mind.copyFrom(now);
        int answer = reader.read(text, mind);
        if (answer > 0) now.copyFrom(mind);
        return answer;
    }

    public int piece(int piece, int what) {
        Road r = now.road;
        if (piece < 0 || piece >= r.pieces) return WRONG;
        switch (what) {
            case 0: return r.steps[piece];
            case 1: return r.hill[piece];
            case 2: return r.villageOf[piece];
            case 3: return r.first[piece];
            default: return WRONG;
        }
    }

    public int room(int place) {
        Road r = now.road;
        if (r.pieces == 0 || place < 0 || place > r.pieces) return WRONG;
        return r.isBetween(place) ? r.roomOf[place] : NONE;
    }

    public int cart(int cart, int what) {
        Cart c = now.cartAt(cart);
        if (c == null) return WRONG;
        switch (what) {
            case 0: return c.up ? 1 : 0;
            case 1: return c.start;
            case 2: return c.loaded ? 1 : 0;
            case 3: return c.backs;
            case 4: return c.worth;
            default: return WRONG;
        }
    }

    public int backs(int cart, int n) {
        Cart c = now.cartAt(cart);
        if (c == null || n < 0 || n > MOST_BACKS) return WRONG;
        int was = c.backs;
        c.backs = n;
        return was;
    }

    public int village(int village, int what) {
        if (village < 0 || village >= VILLAGES) return WRONG;
        if (what == 0) return now.road.kind[village];
        if (what == 1) return now.road.figure[village];
        return WRONG;
    }

    public int rule(int d, int village) {
        Shelf s = shelfAt(d);
        if (s == null || village < 0 || village >= VILLAGES) return WRONG;
        if (s.holds == Shelf.NOTHING) return NOTHING_HELD;
        if (s.holds != Shelf.RULE) return OTHER_KIND;
        now.road.tellRule(village, s.kind, s.figure);
        return s.kind;
    }

    // ---- minutes

    public int go(int n) {
        if (n < 1 || n > 200) return WRONG;
        if (cannotRun() || now.isEnded()) return NOT_NOW;
        for (int i = 0; i < n && !now.isEnded(); i++) now.passMinute();
        return now.minute;
    }

    public int anew() {
        now.beginAnew();
        return now.count;
    }

    public int where(int cart, int what) {
        Cart c = now.cartAt(cart);
        if (c == null) return LOWER + WRONG;
        switch (what) {
            case 0: return c.spot;
            case 1: return c.backing ? 1 : 0;
            case 2: return c.left;
            case 3: return c.backed;
            case 4: return c.waited;
            default: return LOWER + WRONG;
        }
    }

    public int state(int what) {
        switch (what) {
            case 0: return now.minute;
            case 1: return now.allBacked();
            case 2: return now.allWaited();
            case 3: return now.howMany(DONE);
            case 4: return now.stands() ? 1 : 0;
            case 5: return now.meetings;
            default: return WRONG;
        }
    }

    public int enters(int cart) {
        Cart c = now.cartAt(cart);
        if (c == null) return WRONG;
        if (now.road.placeOf(c.spot) < 0) return NOT_NOW;
        return now.letsIn(c) ? 1 : 0;
    }

    public int yields(int a, int b, int village) {
        Cart one = now.cartAt(a);
        Cart other = now.cartAt(b);
        if (one == null || other == null || a == b) return WRONG;
        if (village < 0 || village >= VILLAGES) return WRONG;
        if (one.up == other.up || one.spot < 0 || other.spot < 0) return NOT_NOW;
        boolean atPlace = now.road.placeOf(one.spot) >= 0;
        int hill = atPlace ? 0 : now.road.hillOf(now.pieceAhead(one));
        return now.backerOf(a, b, village, hill);
    }

    public int judge(int cart, int d) {
        Shelf s = shelfAt(d);
        if (s == null || now.cartAt(cart) == null) return WRONG;
        if (s.holds == Shelf.NOTHING) return NOTHING_HELD;
        if (s.holds != Shelf.ROW) return OTHER_KIND;
        if (now.road.pieces == 0) return NOT_NOW;
        mind.copyFrom(now);
        Cart c = mind.cartAt(cart);
        if (c == null) return WRONG;
        for (int i = 0; i < s.size && i < MOST_ELEMENTS; i++) {
            if (!mind.isEnded()) mind.passMinute();
            if (s.values[i] != s.leastNumber() && s.values[i] != c.spot) return i;
        }
        return NONE;
    }

    // ---- runs in mind

    public int run(int d, int what) {
        Shelf s = shelfAt(d);
        if (s == null || what < 0 || what > 4) return WRONG;
        if (s.holds == Shelf.NOTHING) return NOTHING_HELD;
        if (s.holds != Shelf.ROW) return OTHER_KIND;
        if (!s.isWithin(0, 200)) return NO_PLACE;
        if (cannotRun()) return NOT_NOW;
        mind.copyFrom(now);
        for (int k = 0; k < mind.count; k++) mind.carts[k].late = k < s.size ? s.values[k] : 0;
        int cost = costInMind();
        switch (what) {
            case 0: return cost;
            case 1: return mind.allBacked();
            case 2: return mind.allWaited();
            case 3: return mind.minute;
            default: return mind.stands() ? 1 : 0;
        }
    }

    public int ever(int cart) {
        if (now.cartAt(cart) == null) return WRONG;
        if (now.road.pieces == 0) return NOT_NOW;
        mind.copyFrom(now);
        Cart c = mind.cartAt(cart);
        if (c == null) return WRONG;
        for (int n = 0; n <= 40; n++) {
            c.late = n;
            costInMind();
            if (mind.stands()) return n;
        }
        return NONE;
    }

    public int best(int what) {
        if (what != 0 && what != 1) return WRONG;
        if (cannotRun()) return NOT_NOW;
        mind.copyFrom(now);
        int varied = Math.min(4, mind.count);
        least.begin();
        for (int digits = 0; digits < 1 << (2 * varied); digits++) {
            for (int k = 0; k < varied; k++) mind.carts[k].late = 5 * ((digits >> (2 * k)) & 3);
            least.offer(digits, costInMind());
        }
        return what == 0 ? least.key : least.cost;
    }

    public int more(int what) {
        if (what != 0 && what != 1) return WRONG;
        if (cannotRun()) return NOT_NOW;
        mind.copyFrom(now);
        least.begin();
        for (int place = 1; place < mind.road.pieces && place < MOST_PIECES; place++) {
            if (mind.road.roomOf[place] >= MOST_ROOM) continue;
            mind.road.roomOf[place]++;
            least.offer(place, costInMind());
            mind.road.roomOf[place]--;
        }
        return what == 0 ? least.key : least.cost;
    }

    public int fit(int d, int figure) {
        Shelf s = shelfAt(d);
        if (s == null || figure < 0 || figure > MOST_FIGURE) return WRONG;
        if (s.holds == Shelf.NOTHING) return NOTHING_HELD;
        if (!s.holdsBytes()) return OTHER_KIND;
        if (s.size == 0 || !s.isWithin(0, KINDS - 1)) return NO_PLACE;
        if (cannotRun()) return NOT_NOW;
        mind.copyFrom(now);
        least.begin();
        for (int i = 0; i < s.size && i < MOST_ELEMENTS; i++) {
            ruleAllInMind(s.values[i], figure);
            least.offer(i, costInMind());
        }
        return least.key;
    }

    public int shortest() {
        if (cannotRun()) return NOT_NOW;
        mind.copyFrom(now);
        least.begin();
        for (int kind = 0; kind < KINDS; kind++) {
            for (int figure = 0; figure <= 4; figure++) {
                ruleAllInMind(kind, figure);
                costInMind();
                if (!mind.stands()) least.offer(10 * kind + figure, wordsOf(kind, figure));
            }
        }
        return least.key;
    }

    public int hours(int what) {
        if (what != 0 && what != 1) return WRONG;
        if (cannotRun()) return NOT_NOW;
        mind.copyFrom(now);
        least.begin();
        for (int figure = 0; figure <= MOST_FIGURE; figure++) {
            ruleAllInMind(HOUR, figure);
            least.offer(figure, costInMind());
        }
        return what == 0 ? least.key : least.cost;
    }

    public int stubborn(int cart) {
        if (now.cartAt(cart) == null) return LOWER + WRONG;
        if (now.road.pieces == 0) return LOWER + NOT_NOW;
        mind.copyFrom(now);
        int asItIs = costInMind();
        Cart c = mind.cartAt(cart);
        if (c == null) return LOWER + WRONG;
        c.backs = 0;
        return costInMind() - asItIs;
    }

    public int heard(int n) {
        if (n < 0 || n > MOST_FIGURE) return LOWER + WRONG;
        if (cannotRun()) return LOWER + NOT_NOW;
        mind.copyFrom(now);
        ruleAllInMind(BELL, 0);
        int deaf = costInMind();
        ruleAllInMind(BELL, n);
        return deaf - costInMind();
    }

    public int days(int m, int n, int z) {
        if (m < 1 || m > 5 || n < 1 || n > 60) return WRONG;
        if (cannotRun()) return NOT_NOW;
        mind.copyFrom(now);
        int cost = 0;
        for (int day = 0; day < m; day++) {
            int seed = z + day;
            for (int k = 0; k < mind.count; k++) {
                seed = seed * 1103515245 + 12345;
                mind.carts[k].late = ((seed & 0x7fffffff) >> 16) % n;
            }
            cost += costInMind();
        }
        return cost;
    }

    public int met(int a, int b) {
        if (now.cartAt(a) == null || now.cartAt(b) == null || a == b) return WRONG;
        if (now.road.pieces == 0) return NOT_NOW;
        mind.copyFrom(now);
        mind.watch(a, b);
        costInMind();
        int answer = mind.watchedMinute;
        mind.watch(NONE, NONE);
        return answer;
    }

    // ---- rows at one place

    public int rows(int a, int b, int r, int one, int other) {
        if (!areRows(a, b, one, other) || r < 0 || r > 3) return WRONG;
        return passing.leastMoves(a, b, r, one, other);
    }

    public int aside(int a, int b, int one, int other) {
        if (!areRows(a, b, one, other)) return WRONG;
        for (int r = 0; r <= 3; r++) {
            if (passing.leastMoves(a, b, r, one, other) != NONE) return r;
        }
        return NONE;
    }

    // ---- the image, what is told

    public int image() {
        kept.copyFrom(now);
        hasImage = true;
        return now.minute;
    }

    public int restore() {
        if (!hasImage) return NOT_NOW;
        now.copyFrom(kept);
        return now.minute;
    }

    public int count(int what) {
        switch (what) {
            case 0: return now.road.pieces;
            case 1: return now.count;
            case 2: return now.road.end;
            case 3: return now.road.allRoom();
            case 4: return now.count - now.howMany(AHEAD) - now.howMany(DONE);
            case 5: return now.allWorth();
            default: return WRONG;
        }
    }

    // ---- shelves

    public int keep(int d, int what, int k, int figure) {
        Shelf s = shelfAt(d);
        if (s == null || what < 0 || what > 1) return WRONG;
        if (what == 0) {
            s.holds = Shelf.NOTHING;
            return 0;
        }
        if (k < 0 || k >= KINDS || figure < 0 || figure > MOST_FIGURE) return WRONG;
        s.holds = Shelf.RULE;
        s.kind = k;
        s.figure = figure;
        return 0;
    }

    public int row(int d, int sort, int n) {
        Shelf s = shelfAt(d);
        if (s == null || sort < Shelf.BYTES || sort > Shelf.INTS || n > MOST_ELEMENTS) return WRONG;
        if (n < 0) return BELOW_0;
        s.becomeRow(sort, n);
        return 0;
    }

    public int put(int d, int i, int v) {
        Shelf s = shelfAt(d);
        if (s == null) return WRONG;
        if (s.holds == Shelf.NOTHING) return NOTHING_HELD;
        if (s.holds != Shelf.ROW) return OTHER_KIND;
        if (!s.hasElement(i)) return NO_PLACE;
        s.values[i] = s.lowestBits(v);
        return 0;
    }

    public long element(int d, int i) throws IllegalArgumentException, IllegalStateException {
        Shelf s = shelfAt(d);
        if (s == null) throw new IllegalArgumentException("no such shelf");
        if (s.holds != Shelf.ROW) throw new IllegalStateException("no row");
        if (!s.hasElement(i)) throw new IllegalStateException("no such place");
        return s.values[i];
    }

    public int copy(int d, int i, int e, int j, int n) {
        Shelf from = shelfAt(d);
        Shelf to = shelfAt(e);
        if (from == null || to == null) return WRONG;
        if (from.holds == Shelf.NOTHING || to.holds == Shelf.NOTHING) return NOTHING_HELD;
        if (from.holds != Shelf.ROW || to.holds != Shelf.ROW || from.sort != to.sort) return OTHER_KIND;
        if (!from.hasElements(i, n) || !to.hasElements(j, n)) return NO_PLACE;
        System.arraycopy(from.values, i, to.values, j, n);
        return n;
    }

    public int words(int d) {
        Shelf s = shelfAt(d);
        if (s == null) return WRONG;
        if (s.holds == Shelf.NOTHING) return NOTHING_HELD;
        if (s.holds != Shelf.RULE) return OTHER_KIND;
        return wordsOf(s.kind, s.figure);
    }

    public int toss(int d) {
        Shelf s = shelfAt(d);
        if (s == null) return WRONG;
        if (s.holds == Shelf.NOTHING) return NOTHING_HELD;
        if (s.holds != Shelf.RULE) return OTHER_KIND;
        try {
            throwFailure(s.kind, s.figure);
            return NO_FAILURE;
        } catch (UnsupportedOperationException ofBest) {
            return 200 + wordsOf(s.kind, s.figure);
        } catch (IllegalArgumentException ofTold) {
            return 100 + s.figure;
        } catch (IllegalStateException ofOthers) {
            return s.figure;
        }
    }

    // ---- what several calls use

    private Shelf shelfAt(int d) {
        return d < 0 || d >= SHELVES ? null : shelves[d];
    }

    private boolean cannotRun() {
        return now.road.pieces == 0 || now.count == 0;
    }

    private int costInMind() {
        mind.beginAnew();
        for (int i = 0; i < LAST_MINUTE && !mind.isEnded(); i++) mind.passMinute();
        return mind.cost();
    }

    private void ruleAllInMind(int kind, int figure) {
        for (int v = 0; v < VILLAGES; v++) mind.road.tellRule(v, kind, figure);
    }

    private static boolean areRows(int a, int b, int one, int other) {
        return a >= 0 && a <= 3 && b >= 0 && b <= 3 && one >= a && one <= 6 && other >= b && other <= 6;
    }

    private static int wordsOf(int kind, int figure) {
        switch (kind) {
            case SORTED: return 5;
            case NEAR: return 6;
            case HOUR: return 2 + figure;
            case BELL: return 4 + figure;
            case BEST: return 13 + figure;
            case TOLD: return 10;
            case HILLED: return 5;
            default: return 2;
        }
    }

    private static void throwFailure(int kind, int figure) {
        if (kind == HOUR || figure == 0) return;
        if (kind == BEST) throw new UnsupportedOperationException("the best one fails");
        if (kind == TOLD) throw new IllegalArgumentException("the told one fails");
        throw new IllegalStateException("the rule fails");
    }

    /** Of what is offered the first of least cost; both NONE while nothing was. */
    private static final class Least {
        int key;
        int cost;

        void begin() {
            key = NONE;
            cost = NONE;
        }

        void offer(int newKey, int newCost) {
            if (key != NONE && newCost >= cost) return;
            key = newKey;
            cost = newCost;
        }
    }

    /** A shelf's row is made once with all the elements it may ever have, so that no call makes one. */
    private static final class Shelf {
        static final int NOTHING = 0;
        static final int RULE = 1;
        static final int ROW = 2;
        static final int BYTES = 0;
        static final int SHORTS = 1;
        static final int INTS = 2;

        int holds;
        int kind;
        int figure;
        int sort;
        int size;
        final int[] values = new int[MOST_ELEMENTS];

        void becomeRow(int newSort, int newSize) {
            holds = ROW;
            sort = newSort;
            size = newSize;
            for (int i = 0; i < MOST_ELEMENTS; i++) values[i] = 0;
        }

        boolean holdsBytes() {
            return holds == ROW && sort == BYTES;
        }

        boolean hasElement(int i) {
            return i >= 0 && i < size && i < MOST_ELEMENTS;
        }

        boolean hasElements(int i, int n) {
            return i >= 0 && n >= 0 && n <= size && i <= size - n;
        }

        boolean isWithin(int least, int most) {
            for (int i = 0; i < size && i < MOST_ELEMENTS; i++) {
                if (values[i] < least || values[i] > most) return false;
            }
            return true;
        }

        int lowestBits(int v) {
            if (sort == BYTES) return (byte) v;
            if (sort == SHORTS) return (short) v;
            return v;
        }

        int leastNumber() {
            if (sort == BYTES) return -128;
            if (sort == SHORTS) return -32768;
            return -2147483648;
        }
    }

    /** What is told of a cart, and how it fares. */
    private static final class Cart {
        boolean up;
        boolean loaded;
        int start;
        int backs;
        int worth;
        /** Minutes by which it starts later than told: in mind alone. */
        int late;
        int spot = AHEAD;
        boolean backing;
        /** A step back since it began backing: only then a place ends the backing. */
        boolean gaveWay;
        int left;
        int backed;
        int waited;

        void copyFrom(Cart c) {
            up = c.up;
            loaded = c.loaded;
            start = c.start;
            backs = c.backs;
            worth = c.worth;
            late = c.late;
            spot = c.spot;
            backing = c.backing;
            gaveWay = c.gaveWay;
            left = c.left;
            backed = c.backed;
            waited = c.waited;
        }

        void beginAnew() {
            spot = AHEAD;
            backing = false;
            gaveWay = false;
            left = 0;
            backed = 0;
            waited = 0;
        }

        void beginBacking() {
            backing = true;
            gaveWay = false;
        }

        int spotAhead() {
            return up ? spot + 1 : spot - 1;
        }

        int spotBehind() {
            return up ? spot - 1 : spot + 1;
        }

        boolean isSlowOn(int hill) {
            return loaded && hill == (up ? 1 : 2);
        }
    }

    /** Pieces, places and the rules of the villages. */
    private static final class Road {
        int pieces;
        int end;
        final int[] steps = new int[MOST_PIECES];
        final int[] hill = new int[MOST_PIECES];
        final int[] villageOf = new int[MOST_PIECES];
        final int[] roomOf = new int[MOST_PIECES + 1];
        /** The spot of each place. */
        final int[] first = new int[MOST_PIECES + 1];
        /** The place that a spot is, or -1. */
        final int[] placeAt = new int[MOST_SPOTS];
        /** The piece of the step from a spot to the next higher one. */
        final int[] pieceAbove = new int[MOST_SPOTS];
        /** Spots down to the next place, and up to it: 0 at a place. */
        final int[] toLower = new int[MOST_SPOTS];
        final int[] toUpper = new int[MOST_SPOTS];
        final int[] kind = new int[VILLAGES];
        final int[] figure = new int[VILLAGES];

        void copyFrom(Road r) {
            pieces = r.pieces;
            end = r.end;
            System.arraycopy(r.steps, 0, steps, 0, MOST_PIECES);
            System.arraycopy(r.hill, 0, hill, 0, MOST_PIECES);
            System.arraycopy(r.villageOf, 0, villageOf, 0, MOST_PIECES);
            System.arraycopy(r.roomOf, 0, roomOf, 0, MOST_PIECES + 1);
            System.arraycopy(r.first, 0, first, 0, MOST_PIECES + 1);
            System.arraycopy(r.placeAt, 0, placeAt, 0, MOST_SPOTS);
            System.arraycopy(r.pieceAbove, 0, pieceAbove, 0, MOST_SPOTS);
            System.arraycopy(r.toLower, 0, toLower, 0, MOST_SPOTS);
            System.arraycopy(r.toUpper, 0, toUpper, 0, MOST_SPOTS);
            System.arraycopy(r.kind, 0, kind, 0, VILLAGES);
            System.arraycopy(r.figure, 0, figure, 0, VILLAGES);
        }

        boolean addPiece(int newSteps, int newHill) {
            if (pieces >= MOST_PIECES || newSteps < 2 || newSteps > MOST_STEPS) return false;
            if (newHill < 0 || newHill > 2) return false;
            steps[pieces] = newSteps;
            hill[pieces] = newHill;
            villageOf[pieces] = 0;
            roomOf[pieces + 1] = 1;
            for (int i = 0; i < newSteps && end + i < MOST_SPOTS; i++) {
                placeAt[end + i] = i == 0 ? pieces : -1;
                pieceAbove[end + i] = pieces;
                toLower[end + i] = i;
                toUpper[end + i] = i == 0 ? 0 : newSteps - i;
            }
            pieces++;
            end = Math.min(end + newSteps, MOST_SPOTS - 1);
            first[pieces] = end;
            placeAt[end] = pieces;
            toLower[end] = 0;
            toUpper[end] = 0;
            return true;
        }

        boolean isBetween(int place) {
            return place > 0 && place < pieces && place < MOST_PIECES;
        }

        boolean tellRoom(int place, int room) {
            if (!isBetween(place) || room < 0 || room > MOST_ROOM) return false;
            roomOf[place] = room;
            return true;
        }

        boolean tellVillage(int piece, int village) {
            if (piece < 0 || piece >= pieces || village < 0 || village >= VILLAGES) return false;
            villageOf[piece] = village;
            return true;
        }

        boolean tellRule(int village, int newKind, int newFigure) {
            if (village < 0 || village >= VILLAGES || newKind < 0 || newKind >= KINDS) return false;
            if (newFigure < 0 || newFigure > MOST_FIGURE) return false;
            kind[village] = newKind;
            figure[village] = newFigure;
            return true;
        }

        int allRoom() {
            int all = 0;
            for (int place = 1; place < pieces; place++) all += roomOf[place];
            return all;
        }

        boolean isSpot(int spot) {
            return spot >= 0 && spot <= end && spot < MOST_SPOTS;
        }

        /** The place that a spot is, -1 for others and off the road. */
        int placeOf(int spot) {
            return isSpot(spot) ? placeAt[spot] : -1;
        }

        int hillOf(int piece) {
            return piece < 0 || piece >= pieces ? 0 : hill[piece];
        }

        int villageBy(int piece) {
            return piece < 0 || piece >= pieces ? 0 : villageOf[piece];
        }

        int spotOfPlace(int place) {
            return place < 0 || place > pieces ? 0 : first[place];
        }
    }

    /** A road with its carts and minutes: as it is now, as the image keeps it, or in mind. */
    private static final class Traffic {
        final Road road = new Road();
        final Cart[] carts = new Cart[MOST_CARTS];
        int count;
        int minute;
        /** Minutes that went by since the last step. */
        int still;
        int meetings;
        private boolean stepped;
        /** How many carts are on each spot. */
        private final int[] on = new int[MOST_SPOTS];
        private int watchedOne = NONE;
        private int watchedOther = NONE;
        int watchedMinute = NONE;

        Traffic() {
            for (int k = 0; k < MOST_CARTS; k++) carts[k] = new Cart();
        }

        void copyFrom(Traffic t) {
            road.copyFrom(t.road);
            for (int k = 0; k < MOST_CARTS; k++) carts[k].copyFrom(t.carts[k]);
            count = t.count;
            minute = t.minute;
            still = t.still;
            meetings = t.meetings;
            System.arraycopy(t.on, 0, on, 0, MOST_SPOTS);
        }

        boolean addCart(boolean up, int start, int backs, boolean loaded, int worth) {
            if (count >= MOST_CARTS || start > 199 || backs > MOST_BACKS || worth > 99) return false;
            Cart c = carts[count];
            c.beginAnew();
            c.up = up;
            c.start = start;
            c.backs = backs;
            c.loaded = loaded;
            c.worth = worth;
            count++;
            return true;
        }

        Cart cartAt(int k) {
            return k < 0 || k >= count || k >= MOST_CARTS ? null : carts[k];
        }

        void watch(int one, int other) {
            watchedOne = one;
            watchedOther = other;
            watchedMinute = NONE;
        }

        void beginAnew() {
            for (int k = 0; k < MOST_CARTS; k++) carts[k].beginAnew();
            for (int s = 0; s < MOST_SPOTS; s++) on[s] = 0;
            minute = 0;
            still = 0;
            meetings = 0;
        }

        int howMany(int awayFromRoad) {
            int n = 0;
            for (int k = 0; k < count; k++) {
                if (carts[k].spot == awayFromRoad) n++;
            }
            return n;
        }

        int allBacked() {
            int all = 0;
            for (int k = 0; k < count; k++) all += carts[k].backed;
            return all;
        }

        int allWaited() {
            int all = 0;
            for (int k = 0; k < count; k++) all += carts[k].waited;
            return all;
        }

        int allWorth() {
            int all = 0;
            for (int k = 0; k < count; k++) all += carts[k].worth;
            return all;
        }

        boolean stands() {
            return still >= STILL_MINUTES && howMany(AHEAD) == 0 && howMany(DONE) < count;
        }

        boolean isEnded() {
            return minute >= LAST_MINUTE || howMany(DONE) == count || stands();
        }

        int cost() {
            return allBacked() + allWaited() + (stands() ? COST_OF_STANDING : 0);
        }

        void passMinute() {
            stepped = false;
            for (int k = 0; k < count; k++) {
                Cart c = carts[k];
                if (c.spot == AHEAD && c.start + c.late <= minute) comeOn(c);
                if (c.left > 0) c.left--;
                else if (c.spot >= 0 && c.backing) backUp(c);
                else if (c.spot >= 0) goOn(k, c);
            }
            minute++;
            still = stepped ? 0 : still + 1;
        }

        private void comeOn(Cart c) {
            int spot = ownEnd(c);
            if (!road.isSpot(spot)) return;
            c.spot = spot;
            on[spot]++;
        }

        private int ownEnd(Cart c) {
            return c.up ? 0 : road.end;
        }

        private int goal(Cart c) {
            return c.up ? road.end : 0;
        }

        private void backUp(Cart c) {
            if (c.spot == ownEnd(c) || c.gaveWay && road.placeOf(c.spot) >= 0) {
                c.backing = false;
                return;
            }
            int behind = c.spotBehind();
            if (hasRoom(behind)) {
                step(c, behind);
                c.left = c.backs - 1;
                c.backed++;
                c.gaveWay = true;
                return;
            }
            letOneBehindBack(c, behind);
            c.waited++;
        }

        private void letOneBehindBack(Cart c, int behind) {
            for (int k = 0; k < count; k++) {
                Cart follower = carts[k];
                if (follower.spot != behind || follower.up != c.up) continue;
                if (follower.backs == 0 || follower.backing) continue;
                follower.beginBacking();
                return;
            }
        }

        private void goOn(int k, Cart c) {
            boolean atPlace = road.placeOf(c.spot) >= 0;
            if (atPlace && !letsIn(c)) {
                c.waited++;
                return;
            }
            int ahead = c.spotAhead();
            if (!hasRoom(ahead)) {
                c.waited++;
                if (!atPlace) meet(k, c, ahead);
                return;
            }
            int hill = road.hillOf(pieceAhead(c));
            step(c, ahead);
            c.left = c.isSlowOn(hill) ? 1 : 0;
            if (ahead == goal(c)) {
                on[ahead]--;
                c.spot = DONE;
            }
        }

        private boolean hasRoom(int spot) {
            if (!road.isSpot(spot)) return false;
            int place = road.placeAt[spot];
            if (place < 0) return on[spot] == 0;
            return !road.isBetween(place) || on[spot] < road.roomOf[place];
        }

        private void step(Cart c, int to) {
            if (!road.isSpot(c.spot) || !road.isSpot(to)) return;
            on[c.spot]--;
            on[to]++;
            c.spot = to;
            stepped = true;
        }

        /** The piece of a cart's next step; within a piece it is the one the cart is in. */
        int pieceAhead(Cart c) {
            int lower = c.up ? c.spot : c.spot - 1;
            return road.isSpot(lower) ? road.pieceAbove[lower] : 0;
        }

        /** Whether a cart at a place enters the piece ahead of it, by the rule of that piece's village. */
        boolean letsIn(Cart c) {
            int piece = pieceAhead(c);
            int village = road.villageBy(piece);
            int figure = road.figure[village];
            switch (road.kind[village]) {
                case HOUR: return c.spot != ownEnd(c) || isHourOf(c, figure);
                case BELL: return isQuiet(c, piece, figure);
                case BEST: return isQuiet(c, piece, figure) && hasRoom(road.spotOfPlace(c.up ? piece + 1 : piece));
                default: return true;
            }
        }

        private boolean isHourOf(Cart c, int figure) {
            int spell = 10 * Math.max(1, figure + 1);
            return (minute / spell % 2 == 0) == c.up;
        }

        private boolean isQuiet(Cart c, int piece, int figure) {
            int lowest = road.spotOfPlace(piece) + 1;
            int highest = road.spotOfPlace(piece + 1) - 1;
            if (c.up) highest += figure;
            else lowest = Math.max(0, lowest - figure);
            for (int k = 0; k < count; k++) {
                Cart other = carts[k];
                if (other.up != c.up && other.spot >= lowest && other.spot <= highest) return false;
            }
            return true;
        }

        private void meet(int k, Cart c, int ahead) {
            for (int o = 0; o < count; o++) {
                Cart other = carts[o];
                if (other.spot != ahead || other.up == c.up || other.backing) continue;
                noteMeeting(k, o);
                int piece = pieceAhead(c);
                Cart backer = cartAt(backerOf(k, o, road.villageBy(piece), road.hillOf(piece)));
                if (backer != null) backer.beginBacking();
                return;
            }
        }

        private void noteMeeting(int k, int o) {
            meetings++;
            boolean watched = k == watchedOne && o == watchedOther || k == watchedOther && o == watchedOne;
            if (watched && watchedMinute == NONE) watchedMinute = minute;
        }

        /** Which of two carts that go against one another backs, by a village's rule; NONE if neither can. */
        int backerOf(int a, int b, int village, int hill) {
            Cart one = cartAt(a);
            Cart other = cartAt(b);
            if (one == null || other == null || village < 0 || village >= VILLAGES) return NONE;
            int nearer = wayBack(one) - wayBack(other);
            int quicker = wayBack(one) * one.backs - wayBack(other) * other.backs;
            int kind = road.kind[village];
            int preferred = kind == BEST ? quicker : preference(one, other, kind, hill, nearer);
            boolean oneIsTold = preferred == 0 ? a > b : preferred < 0;
            if (oneIsTold && one.backs > 0) return a;
            if (other.backs > 0) return b;
            return one.backs > 0 ? a : NONE;
        }

        /** Below 0: the first is to back; above: the other; 0: alike, as a RULE. */
        private static int preference(Cart one, Cart other, int kind, int hill, int nearer) {
            switch (kind) {
                case SORTED: return one.worth - other.worth;
                case NEAR: return nearer;
                case TOLD:
                    if (one.loaded != other.loaded) return one.loaded ? 1 : -1;
                    return one.worth - other.worth;
                case HILLED:
                    if (hill != 0) return one.up == (hill == 2) ? -1 : 1;
                    return nearer;
                default: return 0;
            }
        }

        /** Spots to the place behind a cart as it goes. */
        private int wayBack(Cart c) {
            if (c.spot < 0 || c.spot >= MOST_SPOTS) return 0;
            return c.up ? road.toLower[c.spot] : road.toUpper[c.spot];
        }
    }

    /** Reads a road's text into a traffic; its caller keeps that only if there was no fault. */
    private static final class Reader {
        private Shelf text = new Shelf();
        private int at;
        /** Set once no road can go on with the byte at 'at', or the text ended too early there. */
        private boolean broken;
        private int letter;
        private int first;
        private int second;
        private int third;
        private boolean loaded;

        int read(Shelf newText, Traffic traffic) {
            text = newText;
            at = 0;
            broken = false;
            int statements = 0;
            int faultAt = -1;
            for (int i = 0; i <= MOST_ELEMENTS && !broken && (i == 0 || at < text.size); i++) {
                int letterAt = at;
                readStatement();
                if (broken) return -1000 - at;
                if (faultAt < 0 && !fulfil(traffic)) faultAt = letterAt;
                statements++;
            }
            return faultAt < 0 ? statements : -2000 - faultAt;
        }

        private void readStatement() {
            letter = next();
            first = 0;
            second = 0;
            third = 0;
            loaded = false;
            switch (letter) {
                case 'p': readPiece(); break;
                case 'r':
                case 'v':
                case 'x': readPair(); break;
                case 'u':
                case 'd': readCart(); break;
                default: broken = true; break;
            }
            want(';');
        }

        private void readPiece() {
            at++;
            first = digit();
            if (skips('h')) second = digit();
        }

        private void readPair() {
            at++;
            first = digit();
            want(' ');
            second = digit();
            if (letter == 'x') third = digit();
        }

        private void readCart() {
            at++;
            first = number();
            want(' ');
            second = digit();
            loaded = skips('l');
            if (skips('w')) third = number();
        }

        /** The byte that comes next, 0 behind the last: no sign of a road is 0. */
        private int next() {
            return at >= 0 && at < text.size && at < MOST_ELEMENTS ? text.values[at] : 0;
        }

        private boolean skips(int sign) {
            if (broken || next() != sign) return false;
            at++;
            return true;
        }

        private void want(int sign) {
            if (!skips(sign)) broken = true;
        }

        private boolean hasDigit() {
            return !broken && next() >= '0' && next() <= '9';
        }

        private int digit() {
            int sign = next();
            if (broken || sign < '0' || sign > '9') {
                broken = true;
                return 0;
            }
            at++;
            return sign - '0';
        }

        private int number() {
            int number = digit();
            if (number == 0) return 0;
            for (int i = 0; i < 2 && hasDigit(); i++) number = 10 * number + digit();
            return number;
        }

        private boolean fulfil(Traffic t) {
            boolean begun = t.minute > 0;
            switch (letter) {
                case 'p': return !begun && t.road.addPiece(first, second);
                case 'r': return !begun && t.road.tellRoom(first, second);
                case 'v': return t.road.tellVillage(first, second);
                case 'x': return t.road.tellRule(first, second, third);
                default: return !begun && t.addCart(letter == 'u', first, second, loaded, third);
            }
        }
    }

    /**
     * Rows that pass at one place. All carts at the sides are one line of bits (1: from the one side),
     * the highest bit 1 ahead of them, and a bar so many carts in: the place. A cart that goes across
     * then only moves the bar.
     */
    private static final class Passing {
        private static final int LINES = 128;
        private static final int BARS = 7;

        private final int[] moves = new int[LINES * BARS];
        private final int[] found = new int[LINES * BARS];
        private int foundCount;
        private int fromOne;
        private int fromOther;
        private int roomAside;
        private int roomOne;
        private int roomOther;

        int leastMoves(int a, int b, int r, int one, int other) {
            fromOne = a;
            fromOther = b;
            roomAside = r;
            roomOne = one;
            roomOther = other;
            foundCount = 0;
            for (int i = 0; i < LINES * BARS; i++) moves[i] = NONE;
            int start = a * LINES + ((2 << (a + b)) - (1 << b));
            int wanted = b * LINES + ((1 << (a + b)) + (1 << a) - 1);
            if (start >= LINES * BARS || wanted >= LINES * BARS) return NONE;
            reach(start / LINES, start % LINES, 0);
            for (int i = 0; i < foundCount && i < LINES * BARS && moves[wanted] == NONE; i++) {
                tryMoves(found[i] / LINES, found[i] % LINES);
            }
            return moves[wanted];
        }

        private void reach(int bar, int line, int after) {
            int index = bar * LINES + line;
            if (bar < 0 || bar >= BARS || line < 0 || line >= LINES) return;
            if (moves[index] != NONE || foundCount >= LINES * BARS) return;
            moves[index] = after;
            found[foundCount] = index;
            foundCount++;
        }

        private void tryMoves(int bar, int line) {
            if (bar < 0 || bar >= BARS || line < 1 || line >= LINES) return;
            int length = lengthOf(line);
            int beyond = length - bar;
            int after = moves[bar * LINES + line] + 1;
            if (bar > 0 && beyond < roomOther) reach(bar - 1, line, after);
            if (beyond > 0 && bar < roomOne) reach(bar + 1, line, after);
            if (fromOne + fromOther - length < roomAside) {
                if (bar > 0) reach(bar - 1, without(line, beyond), after);
                if (beyond > 0) reach(bar, without(line, beyond - 1), after);
            }
            int ones = Integer.bitCount(line) - 1;
            if (ones < fromOne) comeBack(bar, line, 1, after);
            if (length - ones < fromOther) comeBack(bar, line, 0, after);
        }

        private void comeBack(int bar, int line, int bit, int after) {
            int beyond = lengthOf(line) - bar;
            int longer = (((line >> beyond) << 1 | bit) << beyond) | (line & ((1 << beyond) - 1));
            if (bar < roomOne) reach(bar + 1, longer, after);
            if (beyond < roomOther) reach(bar, longer, after);
        }

        private static int lengthOf(int line) {
            int length = 0;
            while (length < BARS && line >> (length + 1) != 0) length++;
            return length;
        }

        private static int without(int line, int bit) {
            return (line >> (bit + 1)) << bit | (line & ((1 << bit) - 1));
        }
    }
}
