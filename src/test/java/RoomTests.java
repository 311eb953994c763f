import com.sun.management.ThreadMXBean;
import java.lang.management.ManagementFactory;

/** All calls of a run live in one room: no call but `line` may make anything. */
public final class RoomTests {
    private static final long MOST_BYTES_OF_A_HOUSE = 40000;
    private static final Check c = new Check("RoomTests");
    private static final ThreadMXBean threads = (ThreadMXBean) ManagementFactory.getThreadMXBean();

    private RoomTests() {
    }

    private static long allocated() {
        return threads.getThreadAllocatedBytes(Thread.currentThread().getId());
    }

    private static PointHouse fullHouse() {
        PointHouse h = new PointHouse();
        h.kind(-1);
        h.has(0, 0, 0);
        h.names(0, 1, 2, 3);
        for (int i = 0; i < 40; i++) {
            h.feed(1, 'a' + i % 20);
            String rest = i < 16 ? "=!0" : i % 3 == 0 ? ".1=a" : i % 3 == 1 ? "=a.1" : "=b:0(c)";
            for (int j = 0; j < rest.length(); j++) {
                h.feed(1, rest.charAt(j));
            }
            c.due("line of a full house", h.line(i % 3, 0), i);
        }
        return h;
    }

    private static void callAll(PointHouse h, int i) {
        h.turn(39, i & 1);
        h.cut(i % 16, i % 20);
        h.ask(i % 20, i, 0);
        h.byKinds(i % 20);
        h.tooMuch(i % 20);
        h.leaves();
        h.race(-1);
        h.run(i, 500);
        h.melted(i % 20);
        h.dead();
        h.sheet(i % 4, i % 3, 40);
        h.cell(i % 4, 3, i);
        h.copy(i % 4, 0, i % 4, 5, 20);
        h.taped(i % 4, i % 3, 0, 1);
        h.line(0, 0);
    }

    public static void main(String[] args) {
        PointHouse h = fullHouse();
        callAll(h, 0);
        allocated();
        long before = allocated();
        for (int i = 0; i < 512; i++) {
            callAll(h, i);
        }
        long spent = allocated() - before;
        c.holds("calls on a full house make nothing, but spent " + spent, spent < 4096);
        before = allocated();
        PointHouse g = new PointHouse();
        spent = allocated() - before;
        c.due("a new house", g.count(1), 0);
        c.holds("a new house is small, but took " + spent, spent < MOST_BYTES_OF_A_HOUSE);
        c.end();
    }
}
