import com.sun.management.ThreadMXBean;
import java.lang.management.ManagementFactory;
import java.util.LinkedHashMap;
import java.util.Map;

/** All calls of one run live in one room: a call makes no objects and no rows, but for the exceptions of element and toss. */
public final class RoomOfCalls {
    private static final int TIMES = 50;
    private static final ThreadMXBean BEAN = (ThreadMXBean) ManagementFactory.getThreadMXBean();
    private static int wrong;

    private interface Call { long on(WhoBacks w); }

    public static void main(String[] args) {
        Map<String, Call> calls = calls();
        WhoBacks w = Due.of("p4;p5h1;p3;r1 1;r2 2;x0 20;u0 1w9;d0 2lw5;u3 0;d4 1;");
        w.go(3);
        w.row(1, 0, 3);
        w.row(2, 0, 3);
        w.keep(3, 1, 4, 0);
        for (Map.Entry<String, Call> e : calls.entrySet()) measure(w, e.getKey(), e.getValue());
        measureNewObject();
        System.out.println("RoomOfCalls: " + calls.size() + " calls, " + wrong + " that make what they needn't");
        if (wrong != 0) System.exit(1);
    }

    private static Map<String, Call> calls() {
        Map<String, Call> calls = new LinkedHashMap<>();
        calls.put("road", w -> w.road(0));
        calls.put("piece, room, cart", w -> w.piece(0, 0) + w.room(1) + w.cart(0, 1));
        calls.put("backs, village, rule", w -> w.backs(0, 1) + w.village(0, 0) + w.rule(3, 1));
        calls.put("go", w -> w.go(1));
        calls.put("where, state", w -> w.where(0, 0) + w.state(0));
        calls.put("enters, yields", w -> w.enters(0) + w.yields(0, 1, 0));
        calls.put("judge", w -> w.judge(0, 1));
        calls.put("run", w -> w.run(1, 0));
        calls.put("ever", w -> w.ever(0));
        calls.put("best", w -> w.best(0));
        calls.put("more", w -> w.more(0));
        calls.put("fit", w -> w.fit(1, 0));
        calls.put("shortest", w -> w.shortest());
        calls.put("hours", w -> w.hours(0));
        calls.put("stubborn", w -> w.stubborn(0));
        calls.put("heard", w -> w.heard(3));
        calls.put("days", w -> w.days(5, 60, 7));
        calls.put("met", w -> w.met(0, 1));
        calls.put("rows, aside", w -> w.rows(3, 3, 1, 6, 6) + w.aside(3, 3, 6, 6));
        calls.put("image, restore, anew", w -> w.image() + w.restore() + w.anew());
        calls.put("count", w -> w.count(3));
        calls.put("keep, row, put", w -> w.keep(5, 1, 3, 3) + w.row(6, 2, 100) + w.put(6, 99, 1));
        calls.put("copy, element", w -> w.copy(1, 0, 2, 0, 3) + w.element(1, 0));
        calls.put("words", w -> w.words(3));
        return calls;
    }

    private static void measure(WhoBacks w, String name, Call call) {
        long made = Long.MAX_VALUE;
        // the first time Java itself makes what a call needs to be made at all
        for (int round = 0; round < 5 && made > 0; round++) {
            long before = BEAN.getThreadAllocatedBytes(Thread.currentThread().getId());
            for (int i = 0; i < TIMES; i++) call.on(w);
            made = BEAN.getThreadAllocatedBytes(Thread.currentThread().getId()) - before;
        }
        if (made < 16 * TIMES) return;
        wrong++;
        System.out.println(name + " makes " + made / TIMES + " bytes a call");
    }

    /** 32000 bytes are some 8000 fields and elements of four bytes: the room, of 7.3 million, has place for 900 such objects. */
    private static void measureNewObject() {
        long before = BEAN.getThreadAllocatedBytes(Thread.currentThread().getId());
        for (int i = 0; i < TIMES; i++) new WhoBacks();
        long made = BEAN.getThreadAllocatedBytes(Thread.currentThread().getId()) - before;
        if (made / TIMES <= 32000) return;
        wrong++;
        System.out.println("an object has " + made / TIMES + " bytes");
    }
}
