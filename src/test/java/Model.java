import java.util.ArrayDeque;
import java.util.ArrayList;
import java.util.HashMap;
import java.util.List;
import java.util.Map;
import java.util.TreeMap;
import java.util.regex.Matcher;
import java.util.regex.Pattern;

/** A second, slow reading of the document, to hold the class against: nothing is shared with it. */
final class Model {
    static class Rule {
        int kind, figure;
        Rule(int kind, int figure) { this.kind = kind; this.figure = figure; }
        static Rule of(int kind, int figure) {
            switch (kind) {
                case 0: return new Rule(0, figure);
                case 1: return new Sorted(1, figure);
                case 2: return new Near(2, figure);
                case 3: return new Hour(3, figure);
                case 4: return new Bell(4, figure);
                case 5: return new Best(5, figure);
                case 6: return new Told(6, figure);
                case 7: return new Hilled(7, figure);
                default: throw new IllegalArgumentException();
            }
        }
        int words() { return 2; }
        boolean enters(World w, int c) { return true; }
        /** hill: that of the piece of the one that meets, 0 if there is none. */
        int told(World w, int a, int b, int hill) { return Math.max(a, b); }
        final int back(World w, int a, int b, int hill) {
            int first = told(w, a, b, hill);
            int second = first == a ? b : a;
            if (w.carts.get(first).backs > 0) return first;
            if (w.carts.get(second).backs > 0) return second;
            return -4;
        }
    }
    static class Sorted extends Rule {
        Sorted(int k, int f) { super(k, f); }
        int words() { return super.words() + 3; }
        int told(World w, int a, int b, int hill) {
            int wa = w.carts.get(a).worth, wb = w.carts.get(b).worth;
            return wa < wb ? a : wb < wa ? b : super.told(w, a, b, hill);
        }
    }
    static class Near extends Rule {
        Near(int k, int f) { super(k, f); }
        int words() { return super.words() + 4; }
        int told(World w, int a, int b, int hill) {
            int da = w.behind(a), db = w.behind(b);
            return da < db ? a : db < da ? b : super.told(w, a, b, hill);
        }
    }
    static class Hour extends Rule {
        Hour(int k, int f) { super(k, f); }
        int words() { return super.words() + figure; }
        boolean enters(World w, int c) {
            CartModel x = w.carts.get(c);
            if (x.spot != (x.up ? 0 : w.end())) return true;
            boolean even = (w.minute / (10 * (figure + 1))) % 2 == 0;
            return x.up ? even : !even;
        }
    }
    static class Bell extends Rule {
        Bell(int k, int f) { super(k, f); }
        int words() { return 2 * super.words() + figure; }
        boolean enters(World w, int c) {
            CartModel x = w.carts.get(c);
            int place = w.places().indexOf(x.spot);
            int far = w.places().get(x.up ? place + 1 : place - 1);
            int step = x.up ? 1 : -1;
            List<Integer> heard = new ArrayList<>();
            for (int s = x.spot + step; s != far; s += step) heard.add(s);
            for (int i = 0; i < figure; i++) heard.add(far + i * step);
            for (CartModel o : w.carts) if (o.up != x.up && o.on() && heard.contains(o.spot)) return false;
            return true;
        }
    }
    static final class Best extends Bell {
        Best(int k, int f) { super(k, f); }
        int words() { return super.words() + 9; }
        boolean enters(World w, int c) {
            CartModel x = w.carts.get(c);
            int place = w.places().indexOf(x.spot);
            return super.enters(w, c) && w.free(w.places().get(x.up ? place + 1 : place - 1));
        }
        int told(World w, int a, int b, int hill) {
            int ma = w.behind(a) * w.carts.get(a).backs, mb = w.behind(b) * w.carts.get(b).backs;
            return ma < mb ? a : mb < ma ? b : Math.max(a, b);
        }
    }
    static final class Told extends Sorted {
        Told(int k, int f) { super(k, f); }
        int words() { return super.words() + 5; }
        int told(World w, int a, int b, int hill) {
            boolean la = w.carts.get(a).loaded, lb = w.carts.get(b).loaded;
            if (!la && lb) return a;
            if (la && !lb) return b;
            return super.told(w, a, b, hill);
        }
    }
    static final class Hilled extends Near {
        Hilled(int k, int f) { super(k, f); }
        int words() { return super.words() - 1; }
        int told(World w, int a, int b, int hill) {
            boolean fa = falls(w.carts.get(a), hill), fb = falls(w.carts.get(b), hill);
            if (fa && !fb) return a;
            if (fb && !fa) return b;
            return super.told(w, a, b, hill);
        }
        private static boolean falls(CartModel c, int hill) { return c.up ? hill == 2 : hill == 1; }
    }

    static final class CartModel implements Cloneable {
        boolean up, loaded, backing, tookStepBack;
        int start, backs, worth, spot = -2, left, backed, waited;
        boolean on() { return spot >= 0; }
        CartModel copy() {
            try { return (CartModel) clone(); } catch (CloneNotSupportedException e) { throw new IllegalStateException(e); }
        }
    }

    static final class World {
        List<int[]> pieces = new ArrayList<>();             // steps, hill, village
        Map<Integer, Integer> rooms = new HashMap<>();      // places with another room than 1
        Rule[] rules = { new Rule(0, 0), new Rule(0, 0), new Rule(0, 0) };
        List<CartModel> carts = new ArrayList<>();
        int minute, still, meetings;
        List<int[]> metAt = new ArrayList<>();              // minute, one, other

        World copy() {
            World w = new World();
            for (int[] p : pieces) w.pieces.add(p.clone());
            w.rooms.putAll(rooms);
            w.rules = rules.clone();
            for (CartModel c : carts) w.carts.add(c.copy());
            w.minute = minute;
            w.still = still;
            w.meetings = meetings;
            w.metAt.addAll(metAt);
            return w;
        }
        World fresh() {
            World w = copy();
            w.anew();
            return w;
        }
        void anew() {
            minute = 0;
            still = 0;
            meetings = 0;
            metAt.clear();
            for (CartModel c : carts) {
                c.spot = -2;
                c.backing = false;
                c.tookStepBack = false;
                c.left = 0;
                c.backed = 0;
                c.waited = 0;
            }
        }
        List<Integer> places() {
            List<Integer> l = new ArrayList<>();
            int s = 0;
            l.add(0);
            for (int[] p : pieces) l.add(s += p[0]);
            return l;
        }
        int end() { return places().get(pieces.size()); }
        int room(int place) { return rooms.getOrDefault(place, 1); }
        boolean free(int spot) {
            int there = 0;
            for (CartModel c : carts) if (c.spot == spot) there++;
            int place = places().indexOf(spot);
            if (place == 0 || place == pieces.size()) return true;
            return place > 0 ? there < room(place) : there == 0;
        }
        /** The piece a spot lies within, -1 at a place. */
        int within(int spot) {
            List<Integer> l = places();
            for (int k = 0; k < pieces.size(); k++) if (l.get(k) < spot && spot < l.get(k + 1)) return k;
            return -1;
        }
        int pieceOfStep(int from, int to) {
            List<Integer> l = places();
            for (int k = 0; k < pieces.size(); k++)
                if (l.get(k) <= Math.min(from, to) && Math.max(from, to) <= l.get(k + 1)) return k;
            throw new IllegalStateException();
        }
        int behind(int c) {
            CartModel x = carts.get(c);
            int piece = within(x.spot);
            if (piece < 0) return 0;
            return x.up ? x.spot - places().get(piece) : places().get(piece + 1) - x.spot;
        }
        boolean stands() {
            if (still < 60) return false;
            boolean allDone = true;
            for (CartModel c : carts) {
                if (c.spot == -2) return false;
                if (c.spot != -3) allDone = false;
            }
            return !allDone;
        }
        boolean ended() {
            return minute == 999 || stands() || carts.stream().allMatch(c -> c.spot == -3);
        }
        boolean enters(int c) {
            CartModel x = carts.get(c);
            int place = places().indexOf(x.spot);
            return rules[pieces.get(x.up ? place : place - 1)[2]].enters(this, c);
        }
        void pass() {
            if (ended()) return;
            boolean anyStep = false;
            for (int c = 0; c < carts.size(); c++) anyStep |= act(c);
            minute++;
            still = anyStep ? 0 : still + 1;
        }
        /** Whether it took a step. */
        boolean act(int c) {
            CartModel x = carts.get(c);
            if (x.spot == -2) {
                if (x.start > minute) return false;
                x.spot = x.up ? 0 : end();
            }
            if (x.left > 0) {
                x.left--;
                return false;
            }
            if (x.spot == -3) return false;
            return x.backing ? back(x) : onward(c, x);
        }
        boolean back(CartModel x) {
            boolean atPlace = within(x.spot) < 0;
            if (atPlace && x.tookStepBack || x.spot == (x.up ? 0 : end())) {
                x.backing = false;
                return false;
            }
            int to = x.spot + (x.up ? -1 : 1);
            if (free(to)) {
                x.spot = to;
                x.left = x.backs - 1;
                x.backed++;
                x.tookStepBack = true;
                return true;
            }
            for (CartModel o : carts) {
                if (o.spot == to && o.up == x.up && o.backs > 0 && !o.backing) {
                    o.backing = true;
                    o.tookStepBack = false;
                    break;
                }
            }
            x.waited++;
            return false;
        }
        boolean onward(int c, CartModel x) {
            boolean atPlace = within(x.spot) < 0;
            if (atPlace && !enters(c)) {
                x.waited++;
                return false;
            }
            int to = x.spot + (x.up ? 1 : -1);
            if (free(to)) {
                int hill = pieces.get(pieceOfStep(x.spot, to))[1];
                boolean slow = x.loaded && (x.up && hill == 1 || !x.up && hill == 2);
                x.spot = to;
                x.left = (slow ? 2 : 1) - 1;
                if (to == (x.up ? end() : 0)) x.spot = -3;
                return true;
            }
            x.waited++;
            if (atPlace) return false;
            for (int o = 0; o < carts.size(); o++) {
                CartModel y = carts.get(o);
                if (y.spot != to || y.up == x.up || y.backing) continue;
                meetings++;
                metAt.add(new int[] { minute, c, o });
                int[] piece = pieces.get(within(x.spot));
                int who = rules[piece[2]].back(this, c, o, piece[1]);
                if (who >= 0) {
                    carts.get(who).backing = true;
                    carts.get(who).tookStepBack = false;
                }
                break;
            }
            return false;
        }
        World ranOut(int... late) {
            World w = fresh();
            for (int c = 0; c < w.carts.size(); c++) if (c < late.length) w.carts.get(c).start += late[c];
            while (!w.ended()) w.pass();
            return w;
        }
        World ruled(Rule r) {
            World w = copy();
            w.rules = new Rule[] { r, r, r };
            return w;
        }
        int backed() { return carts.stream().mapToInt(c -> c.backed).sum(); }
        int waited() { return carts.stream().mapToInt(c -> c.waited).sum(); }
        int cost() { return backed() + waited() + (stands() ? 1000 : 0); }
    }

    private World world = new World();
    private World image;
    private final Object[] shelves = new Object[8];

    static final class RowModel {
        final int sort;
        final long[] values;
        RowModel(int sort, int n) { this.sort = sort; values = new long[n]; }
    }

    private static boolean in(int x, int least, int most) { return x >= least && x <= most; }
    private boolean noPieces() { return world.pieces.isEmpty(); }
    private boolean noRun() { return noPieces() || world.carts.isEmpty(); }
    private boolean isCart(int c) { return in(c, 0, world.carts.size() - 1); }

    // ---- roads

    private static final String NUMBER = "(?:0|[1-9][0-9]{0,2})";
    private static final Pattern STATEMENT = Pattern.compile(
        "p([0-9])(?:h([0-9]))?;|r([0-9]) ([0-9]);|v([0-9]) ([0-9]);|x([0-9]) ([0-9])([0-9]);|([ud])("
        + NUMBER + ") ([0-9])(l)?(?:w(" + NUMBER + "))?;");
    private static final Pattern ROAD = Pattern.compile("(?:" + STATEMENT.pattern() + ")+");

    int road(int d) {
        if (!in(d, 0, 7)) return -1;
        if (shelves[d] == null) return -11;
        if (!(shelves[d] instanceof RowModel) || ((RowModel) shelves[d]).sort != 0) return -12;
        StringBuilder sb = new StringBuilder();
        for (long v : ((RowModel) shelves[d]).values) sb.append((char) (v & 255));
        String text = sb.toString();
        for (int n = 1; n <= text.length(); n++) {
            Matcher m = ROAD.matcher(text.substring(0, n));
            if (!m.matches() && !m.hitEnd()) return -1000 - (n - 1);
        }
        if (!ROAD.matcher(text).matches()) return -1000 - text.length();
        World w = world.copy();
        Matcher m = STATEMENT.matcher(text);
        int statements = 0;
        while (m.find()) {
            if (!fulfil(w, m)) return -2000 - m.start();
            statements++;
        }
        world = w;
        return statements;
    }

    private static int num(Matcher m, int group) { return m.group(group) == null ? 0 : Integer.parseInt(m.group(group)); }

    private static boolean fulfil(World w, Matcher m) {
        char letter = m.group().charAt(0);
        if ("prud".indexOf(letter) >= 0 && w.minute != 0) return false;
        switch (letter) {
            case 'p':
                if (w.pieces.size() == 8 || !in(num(m, 1), 2, 9) || !in(num(m, 2), 0, 2)) return false;
                w.pieces.add(new int[] { num(m, 1), num(m, 2), 0 });
                return true;
            case 'r':
                if (!in(num(m, 3), 1, w.pieces.size() - 1) || !in(num(m, 4), 0, 4)) return false;
                w.rooms.put(num(m, 3), num(m, 4));
                return true;
            case 'v':
                if (!in(num(m, 5), 0, w.pieces.size() - 1) || !in(num(m, 6), 0, 2)) return false;
                w.pieces.get(num(m, 5))[2] = num(m, 6);
                return true;
            case 'x':
                if (!in(num(m, 7), 0, 2) || !in(num(m, 8), 0, 7)) return false;
                w.rules[num(m, 7)] = Rule.of(num(m, 8), num(m, 9));
                return true;
            default:
                if (w.carts.size() == 7 || num(m, 11) > 199 || num(m, 12) > 3 || num(m, 14) > 99) return false;
                CartModel c = new CartModel();
                c.up = letter == 'u';
                c.start = num(m, 11);
                c.backs = num(m, 12);
                c.loaded = m.group(13) != null;
                c.worth = num(m, 14);
                w.carts.add(c);
                return true;
        }
    }

    int piece(int p, int what) {
        if (!in(p, 0, world.pieces.size() - 1) || !in(what, 0, 3)) return -1;
        return what == 3 ? world.places().get(p) : world.pieces.get(p)[what];
    }
    int room(int place) {
        if (noPieces() || !in(place, 0, world.pieces.size())) return -1;
        return place == 0 || place == world.pieces.size() ? -4 : world.room(place);
    }
    int cart(int c, int what) {
        if (!isCart(c) || !in(what, 0, 4)) return -1;
        CartModel x = world.carts.get(c);
        return new int[] { x.up ? 1 : 0, x.start, x.loaded ? 1 : 0, x.backs, x.worth }[what];
    }
    int backs(int c, int n) {
        if (!isCart(c) || !in(n, 0, 3)) return -1;
        int was = world.carts.get(c).backs;
        world.carts.get(c).backs = n;
        return was;
    }
    int village(int v, int what) {
        if (!in(v, 0, 2) || !in(what, 0, 1)) return -1;
        return what == 0 ? world.rules[v].kind : world.rules[v].figure;
    }
    int rule(int d, int v) {
        if (!in(d, 0, 7) || !in(v, 0, 2)) return -1;
        if (shelves[d] == null) return -11;
        if (!(shelves[d] instanceof Rule)) return -12;
        world.rules[v] = (Rule) shelves[d];
        return world.rules[v].kind;
    }

    // ---- minutes

    int go(int n) {
        if (!in(n, 1, 200)) return -1;
        if (noRun() || world.ended()) return -3;
        for (int i = 0; i < n; i++) world.pass();
        return world.minute;
    }
    int anew() {
        world.anew();
        return world.carts.size();
    }
    int where(int c, int what) {
        if (!isCart(c) || !in(what, 0, 4)) return -1000000001;
        CartModel x = world.carts.get(c);
        return new int[] { x.spot, x.backing ? 1 : 0, x.left, x.backed, x.waited }[what];
    }
    int state(int what) {
        if (!in(what, 0, 5)) return -1;
        int done = (int) world.carts.stream().filter(c -> c.spot == -3).count();
        return new int[] { world.minute, world.backed(), world.waited(), done, world.stands() ? 1 : 0, world.meetings }[what];
    }
    int enters(int c) {
        if (!isCart(c)) return -1;
        if (!world.carts.get(c).on() || world.within(world.carts.get(c).spot) >= 0) return -3;
        return world.enters(c) ? 1 : 0;
    }
    int yields(int a, int b, int v) {
        if (!isCart(a) || !isCart(b) || a == b || !in(v, 0, 2)) return -1;
        CartModel x = world.carts.get(a), y = world.carts.get(b);
        if (x.up == y.up || !x.on() || !y.on()) return -3;
        int piece = world.within(x.spot);
        return world.rules[v].back(world, a, b, piece < 0 ? 0 : world.pieces.get(piece)[1]);
    }
    int judge(int c, int d) {
        if (!isCart(c) || !in(d, 0, 7)) return -1;
        if (shelves[d] == null) return -11;
        if (!(shelves[d] instanceof RowModel)) return -12;
        if (noPieces()) return -3;
        World w = world.copy();
        RowModel r = (RowModel) shelves[d];
        long skipped = new long[] { Byte.MIN_VALUE, Short.MIN_VALUE, Integer.MIN_VALUE }[r.sort];
        for (int i = 0; i < r.values.length; i++) {
            w.pass();
            if (r.values[i] != skipped && r.values[i] != w.carts.get(c).spot) return i;
        }
        return -4;
    }

    // ---- runs in mind

    int run(int d, int what) {
        if (!in(d, 0, 7) || !in(what, 0, 4)) return -1;
        if (shelves[d] == null) return -11;
        if (!(shelves[d] instanceof RowModel)) return -12;
        long[] v = ((RowModel) shelves[d]).values;
        int[] late = new int[v.length];
        for (int i = 0; i < v.length; i++) {
            if (v[i] < 0 || v[i] > 200) return -13;
            late[i] = (int) v[i];
        }
        if (noRun()) return -3;
        World w = world.ranOut(late);
        return new int[] { w.cost(), w.backed(), w.waited(), w.minute, w.stands() ? 1 : 0 }[what];
    }
    int ever(int c) {
        if (!isCart(c)) return -1;
        if (noPieces()) return -3;
        for (int n = 0; n <= 40; n++) {
            int[] late = new int[7];
            late[c] = n;
            if (world.ranOut(late).stands()) return n;
        }
        return -4;
    }
    /** The least key of least cost, or that cost. */
    private static int least(TreeMap<Integer, Integer> costs, boolean theCost) {
        int key = -4, cost = -4;
        for (Map.Entry<Integer, Integer> e : costs.entrySet()) {
            if (key == -4 || e.getValue() < cost) {
                key = e.getKey();
                cost = e.getValue();
            }
        }
        return theCost ? cost : key;
    }
    int best(int what) {
        if (!in(what, 0, 1)) return -1;
        if (noRun()) return -3;
        int n = Math.min(4, world.carts.size());
        TreeMap<Integer, Integer> costs = new TreeMap<>();
        for (int code = 0; code < Math.pow(4, n); code++) {
            int[] late = new int[n];
            int rest = code;
            for (int c = 0; c < n; c++, rest /= 4) late[c] = rest % 4 * 5;
            costs.put(code, world.ranOut(late).cost());
        }
        return least(costs, what == 1);
    }
    int more(int what) {
        if (!in(what, 0, 1)) return -1;
        if (noRun()) return -3;
        TreeMap<Integer, Integer> costs = new TreeMap<>();
        for (int p = 1; p < world.pieces.size(); p++) {
            if (world.room(p) == 4) continue;
            World w = world.copy();
            w.rooms.put(p, w.room(p) + 1);
            costs.put(p, w.ranOut().cost());
        }
        return least(costs, what == 1);
    }
    int fit(int d, int figure) {
        if (!in(d, 0, 7) || !in(figure, 0, 9)) return -1;
        if (shelves[d] == null) return -11;
        if (!(shelves[d] instanceof RowModel) || ((RowModel) shelves[d]).sort != 0) return -12;
        long[] v = ((RowModel) shelves[d]).values;
        if (v.length == 0) return -13;
        for (long x : v) if (x < 0 || x > 7) return -13;
        if (noRun()) return -3;
        TreeMap<Integer, Integer> costs = new TreeMap<>();
        for (int i = 0; i < v.length; i++) costs.put(i, world.ruled(Rule.of((int) v[i], figure)).ranOut().cost());
        return least(costs, false);
    }
    int shortest() {
        if (noRun()) return -3;
        TreeMap<Integer, Integer> words = new TreeMap<>();
        for (int k = 0; k < 8; k++) {
            for (int f = 0; f < 5; f++) {
                Rule r = Rule.of(k, f);
                if (!world.ruled(r).ranOut().stands()) words.put(10 * k + f, r.words());
            }
        }
        return least(words, false);
    }
    int hours(int what) {
        if (!in(what, 0, 1)) return -1;
        if (noRun()) return -3;
        TreeMap<Integer, Integer> costs = new TreeMap<>();
        for (int f = 0; f < 10; f++) costs.put(f, world.ruled(new Hour(3, f)).ranOut().cost());
        return least(costs, what == 1);
    }
    int stubborn(int c) {
        if (!isCart(c)) return -1000000001;
        if (noPieces()) return -1000000003;
        World w = world.copy();
        w.carts.get(c).backs = 0;
        return w.ranOut().cost() - world.ranOut().cost();
    }
    int heard(int n) {
        if (!in(n, 0, 9)) return -1000000001;
        if (noRun()) return -1000000003;
        return world.ruled(new Bell(4, 0)).ranOut().cost() - world.ruled(new Bell(4, n)).ranOut().cost();
    }
    int days(int m, int n, int z) {
        if (!in(m, 1, 5) || !in(n, 1, 60)) return -1;
        if (noRun()) return -3;
        int sum = 0;
        for (int day = 0; day < m; day++) {
            int seed = z + day;
            int[] late = new int[world.carts.size()];
            for (int c = 0; c < late.length; c++) {
                seed = seed * 1103515245 + 12345;
                late[c] = ((seed << 1 >>> 1) / 65536) % n;
            }
            sum += world.ranOut(late).cost();
        }
        return sum;
    }
    int met(int a, int b) {
        if (!isCart(a) || !isCart(b) || a == b) return -1;
        if (noPieces()) return -3;
        for (int[] m : world.ranOut().metAt) {
            if (m[1] == a && m[2] == b || m[1] == b && m[2] == a) return m[0];
        }
        return -4;
    }

    // ---- rows at one place: texts "one side|other side|aside", the nearest last

    int rows(int a, int b, int r, int one, int other) {
        if (!in(a, 0, 3) || !in(b, 0, 3) || !in(r, 0, 3) || !in(one, 0, 6) || !in(other, 0, 6) || one < a || other < b) return -1;
        Map<String, Integer> moves = new HashMap<>();
        ArrayDeque<String> todo = new ArrayDeque<>();
        String start = "a".repeat(a) + "|" + "b".repeat(b) + "|";
        moves.put(start, 0);
        todo.add(start);
        while (!todo.isEmpty()) {
            String s = todo.poll();
            String[] p = s.split("\\|", -1);
            if (p[0].equals("b".repeat(b)) && p[1].equals("a".repeat(a)) && p[2].isEmpty()) return moves.get(s);
            List<String> next = new ArrayList<>();
            if (!p[0].isEmpty()) {
                String less = p[0].substring(0, p[0].length() - 1), x = p[0].substring(p[0].length() - 1);
                if (p[1].length() < other) next.add(less + "|" + p[1] + x + "|" + p[2]);
                if (p[2].length() < r) next.add(less + "|" + p[1] + "|" + p[2] + x);
            }
            if (!p[1].isEmpty()) {
                String less = p[1].substring(0, p[1].length() - 1), x = p[1].substring(p[1].length() - 1);
                if (p[0].length() < one) next.add(p[0] + x + "|" + less + "|" + p[2]);
                if (p[2].length() < r) next.add(p[0] + "|" + less + "|" + p[2] + x);
            }
            for (int i = 0; i < p[2].length(); i++) {
                String rest = p[2].substring(0, i) + p[2].substring(i + 1), x = p[2].substring(i, i + 1);
                if (p[0].length() < one) next.add(p[0] + x + "|" + p[1] + "|" + rest);
                if (p[1].length() < other) next.add(p[0] + "|" + p[1] + x + "|" + rest);
            }
            for (String n : next) if (moves.putIfAbsent(n, moves.get(s) + 1) == null) todo.add(n);
        }
        return -4;
    }
    int aside(int a, int b, int one, int other) {
        for (int r = 0; r <= 3; r++) {
            int moves = rows(a, b, r, one, other);
            if (moves == -1) return -1;
            if (moves >= 0) return r;
        }
        return -4;
    }

    // ---- the image, what is told

    int image() {
        image = world.copy();
        return world.minute;
    }
    int restore() {
        if (image == null) return -3;
        world = image.copy();
        return world.minute;
    }
    int count(int what) {
        switch (what) {
            case 0: return world.pieces.size();
            case 1: return world.carts.size();
            case 2: return world.end();
            case 3:
                int all = 0;
                for (int p = 1; p < world.pieces.size(); p++) all += world.room(p);
                return all;
            case 4: return (int) world.carts.stream().filter(CartModel::on).count();
            case 5: return world.carts.stream().mapToInt(c -> c.worth).sum();
            default: return -1;
        }
    }

    // ---- shelves

    int keep(int d, int what, int k, int figure) {
        if (!in(d, 0, 7) || !in(what, 0, 1)) return -1;
        if (what == 1 && (!in(k, 0, 7) || !in(figure, 0, 9))) return -1;
        shelves[d] = what == 0 ? null : Rule.of(k, figure);
        return 0;
    }
    int row(int d, int sort, int n) {
        if (!in(d, 0, 7) || !in(sort, 0, 2) || n > 100) return -1;
        if (n < 0) return -14;
        shelves[d] = new RowModel(sort, n);
        return 0;
    }
    int put(int d, int i, int v) {
        if (!in(d, 0, 7)) return -1;
        if (shelves[d] == null) return -11;
        if (!(shelves[d] instanceof RowModel)) return -12;
        RowModel r = (RowModel) shelves[d];
        if (!in(i, 0, r.values.length - 1)) return -13;
        r.values[i] = r.sort == 0 ? (byte) v : r.sort == 1 ? (short) v : v;
        return 0;
    }
    long element(int d, int i) {
        if (!in(d, 0, 7)) throw new IllegalArgumentException();
        if (!(shelves[d] instanceof RowModel)) throw new IllegalStateException();
        RowModel r = (RowModel) shelves[d];
        if (!in(i, 0, r.values.length - 1)) throw new IllegalStateException();
        return r.values[i];
    }
    int copy(int d, int i, int e, int j, int n) {
        if (!in(d, 0, 7) || !in(e, 0, 7)) return -1;
        if (shelves[d] == null || shelves[e] == null) return -11;
        if (!(shelves[d] instanceof RowModel) || !(shelves[e] instanceof RowModel)) return -12;
        RowModel f = (RowModel) shelves[d], t = (RowModel) shelves[e];
        if (f.sort != t.sort) return -12;
        if (n < 0 || i < 0 || j < 0 || (long) i + n > f.values.length || (long) j + n > t.values.length) return -13;
        long[] taken = new long[n];
        for (int k = 0; k < n; k++) taken[k] = f.values[i + k];
        for (int k = 0; k < n; k++) t.values[j + k] = taken[k];
        return n;
    }
    int words(int d) {
        if (!in(d, 0, 7)) return -1;
        if (shelves[d] == null) return -11;
        return shelves[d] instanceof Rule ? ((Rule) shelves[d]).words() : -12;
    }
    int toss(int d) {
        if (!in(d, 0, 7)) return -1;
        if (shelves[d] == null) return -11;
        if (!(shelves[d] instanceof Rule)) return -12;
        Rule r = (Rule) shelves[d];
        if (r instanceof Hour || r.figure == 0) return -15;
        if (r instanceof Best) return 200 + r.words();
        return r.figure + (r instanceof Told ? 100 : 0);
    }
}
