import java.lang.management.ManagementFactory;

/** All calls of a run live in one room: an object's 512 calls, the dearest ones among them, stay far inside it. */
final class RoomTest {
    /** The room has some 600,000 objects, each of which takes 16 bytes at least. */
    private static final long ROOM = 600_000L * 16;
    private static final int CALLS = 512;
    private static final String TEXT = "0,0-1,1-2,0z";

    private final VectorPens x = new VectorPens();
    private int calls;
    private long told;

    private RoomTest() {
        draw();
    }

    private static long allocated() {
        com.sun.management.ThreadMXBean bean = (com.sun.management.ThreadMXBean) ManagementFactory.getThreadMXBean();
        return bean.getThreadAllocatedBytes(Thread.currentThread().getId());
    }

    private void add(long answer) {
        calls++;
        told = 31 * told + answer;
    }

    /** Ten strokes of 30 points that cross one another. */
    private void draw() {
        for (int k = 0; k < 10; k++) {
            add(x.down(k * 7, k * 90));
            for (int i = 1; i < 30; i++) {
                add(x.draw((k * 137 + i * 379) % 1000, (k * 211 + i * i * 53) % 1000));
            }
            add(x.lift());
            Check.due("strokes()", x.strokes(), k + 1);
            calls++;
        }
    }

    private void dearCalls() {
        add(x.digest());
        add(x.of(9, 5));
        add(x.crossings(0, 9));
        add(x.nearest(500, 500));
        add(x.toleranceFor(0, 2));
        add(x.ifSimplified(3, 100));
        add(x.ifWelded(999));
        add(x.simplify(2, 0));
        add(x.weld(300));
        add(x.joinAll());
        for (int i = 0; i < 3; i++) {
            add(x.undo());
        }
        for (char sign : TEXT.toCharArray()) {
            add(x.type(sign));
        }
        add(x.syntaxError());
        add(x.read());
        add(x.clearText());
    }

    public static void main(String[] args) {
        RoomTest first = new RoomTest();
        first.dearCalls();
        long before = allocated();
        RoomTest second = new RoomTest();
        second.dearCalls();
        long once = second.told;
        while (second.calls + 16 + TEXT.length() <= CALLS) {
            second.dearCalls();
        }
        long bytes = allocated() - before;
        Check.due("the same calls on another object", once, first.told);
        Check.holds(second.calls + " calls stay in the room, but for " + bytes + " bytes", bytes < ROOM);
        Check.end("RoomTest");
    }
}
