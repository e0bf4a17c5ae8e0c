import java.lang.management.ManagementFactory;

/** All calls of a run live in one room: the object is made once, and its calls make nothing more. */
final class RoomTest {
    private RoomTest() {
    }

    private static long allocated() {
        com.sun.management.ThreadMXBean bean = (com.sun.management.ThreadMXBean) ManagementFactory.getThreadMXBean();
        return bean.getThreadAllocatedBytes(Thread.currentThread().getId());
    }

    /** Ten strokes of 30 points that cross one another. */
    private static VectorPens dearest() {
        VectorPens x = new VectorPens();
        for (int k = 0; k < 10; k++) {
            x.down(k * 7, k * 90);
            for (int i = 1; i < 30; i++) {
                x.draw((k * 137 + i * 379) % 1000, (k * 211 + i * i * 53) % 1000);
            }
            Check.due("lift()", x.lift(), k);
        }
        return x;
    }

    private static long dearCalls(VectorPens x) {
        long sum = x.digest();
        sum += x.of(9, 5) + x.crossings(0, 9) + x.nearest(500, 500);
        sum += x.toleranceFor(0, 2) + x.ifSimplified(3, 100) + x.ifWelded(999);
        sum += x.simplify(2, 0) + x.weld(300) + x.joinAll() + x.undo() + x.undo() + x.undo();
        for (char sign : "0,0-1,1-2,0z".toCharArray()) {
            sum += x.type(sign);
        }
        return sum + x.syntaxError() + x.read() + x.clearText();
    }

    public static void main(String[] args) {
        VectorPens x = dearest();
        long first = dearCalls(x);
        long before = allocated();
        long unused = allocated() - before;
        before = allocated();
        boolean same = true;
        for (int i = 0; i < 40; i++) {
            same &= dearCalls(x) == first;
        }
        long more = allocated() - before - unused - 40L * 64;
        Check.holds("the same calls give the same answers", same);
        Check.holds("the calls make no objects, but: " + more + " bytes", more < 40L * 64);
        Check.end("RoomTest");
    }
}
