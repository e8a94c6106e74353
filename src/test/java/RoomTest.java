import java.lang.management.ManagementFactory;

/** All calls of a run share one room, so the class makes everything in its constructor and nothing later. */
public final class RoomTest {
    private static final int OBJECTS = 600_000;
    private static final int BYTES_OF_AN_OBJECT = 16;
    private static final int LEAST_BYTES = 8;
    private static final int CALLS = 512;

    private static final com.sun.management.ThreadMXBean THREADS =
        (com.sun.management.ThreadMXBean) ManagementFactory.getThreadMXBean();

    public static void main(String[] args) {
        calls(new SightBlocks());
        long start = made();
        SightBlocks x = new SightBlocks();
        long constructed = made() - start;
        calls(x);
        long all = made() - start;
        System.out.println("bytes made by the constructor: " + constructed + ", by the calls: " + (all - constructed));
        Due.holds("the constructor keeps to a tenth of the room", constructed < OBJECTS / 10 * LEAST_BYTES);
        Due.holds("the calls make nothing", all - constructed < CALLS * BYTES_OF_AN_OBJECT);
        Due.end();
    }

    private static long made() {
        return THREADS.getThreadAllocatedBytes(Thread.currentThread().getId());
    }

    private static void calls(SightBlocks x) {
        x.addBlock(6, 10, 5);
        x.addBlock(6, 10, 6);
        x.addStage();
        x.addPiece(0, 55, 59);
        x.putUp(0);
        for (int i = 0; i < 20; i++) {
            x.hold(0, 2, 900);
            x.buy(i);
            x.place(0, 3);
            x.chain(i);
            x.block(0, 8);
            x.count(12);
            x.cheapest(4);
            x.nextExpiry();
            x.holdOf(i, 1);
            x.ticket(i, 1);
            x.chair(i);
            x.wouldKill(0);
            x.append('w');
            x.run();
            x.clearText();
            x.upgrade(i / 2);
            x.comeIn(0);
            x.pass(1);
            x.undo();
        }
        x.closeDoors();
    }
}
