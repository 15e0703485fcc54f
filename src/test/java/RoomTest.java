import java.lang.management.ManagementFactory;

/** The room of LANGUAGE.md: an object makes what it needs in its constructor, and its calls make nothing. */
public final class RoomTest {
    private static int sum;

    public static void main(String[] args) {
        com.sun.management.ThreadMXBean threads = (com.sun.management.ThreadMXBean) ManagementFactory.getThreadMXBean();
        long id = Thread.currentThread().getId();
        calls(new DriftingLevels());
        DriftingLevels x = new DriftingLevels();
        long before = threads.getThreadAllocatedBytes(id);
        calls(x);
        long bytes = threads.getThreadAllocatedBytes(id) - before;
        System.out.println("512 calls made " + bytes + " bytes");
        Due.is("few bytes are made by 512 calls", bytes < 20000 ? 1 : 0, 1);
        Due.end();
    }

    private static void calls(DriftingLevels x) {
        String orders = "d9;a0;a1;w0,0,1;r1,77;f2,2,888;m2,2;d9;a3;";
        for (int i = 0; i < orders.length(); i++) {
            sum += x.type(orders.charAt(i));
        }
        for (int i = 0; i < 33; i++) {
            sum += x.play() + x.fault(0) + x.safeAge() + x.wrongIn(0) + x.rightFor(0) + x.worst(5) + x.mean();
            sum += x.ask(0, 0) + x.share() + x.fill(i % 6, 77 * i) + x.anew(i % 6) + x.undo() + x.set(2, i) + x.count(2);
        }
    }
}
