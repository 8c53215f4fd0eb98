import com.sun.management.ThreadMXBean;
import java.lang.management.ManagementFactory;

/** The dearest calls make next to nothing: rows are made once and used again. */
public final class RoomTest {
    public static void main(String[] args) {
        ThreadMXBean threads = (ThreadMXBean) ManagementFactory.getThreadMXBean();
        dearCalls(new HolePuncher(), 4);
        long before = threads.getCurrentThreadAllocatedBytes();
        HolePuncher x = new HolePuncher();
        long made = threads.getCurrentThreadAllocatedBytes() - before;
        dearCalls(x, 80);
        long all = threads.getCurrentThreadAllocatedBytes() - before;
        System.out.println("bytes for a new object: " + made + ", with 480 calls more: " + all);
        Check.isTrue("a new object is small", made < 4000);
        Check.isTrue("480 calls stay small", all < 200000);
        Check.end();
    }

    private static void dearCalls(HolePuncher x, int many) {
        x.addHost(-1);
        int net = -1;
        for (int i = 0; i < 7; i++) {
            net = x.addTranslator(net, 2, 0, i % 3);
            x.setNumber(net, 1, 3);
        }
        int inside = x.addHost(net);
        int beside = x.addHost(net);
        for (int i = 0; i < many; i++) {
            x.keepAlive(inside, 500, 0, 1 + i, 4, 20);
            x.punch(inside, beside, 0, true);
            x.save();
            x.ifSent(inside, 600, 0, 1 + i);
            x.restore();
            x.digest();
        }
    }
}
