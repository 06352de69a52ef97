import java.lang.management.ManagementFactory;

/** The room of a run: calls make no objects, an object's own making is small. */
public final class RoomTest {
    private static final Check check = new Check();

    private static long made() {
        com.sun.management.ThreadMXBean bean =
            (com.sun.management.ThreadMXBean) ManagementFactory.getThreadMXBean();
        return bean.getThreadAllocatedBytes(Thread.currentThread().getId());
    }

    private static void callAll(ThunderCasks x) {
        x.frost(0, 1);
        x.cask(4, 0);
        x.change(0, 2, 60);
        x.sell(1);
        x.go(5);
        x.now(3);
        x.ahead(0, 7, 100);
        x.claps(100);
        x.bursts(0);
        x.when(0, 2000);
        x.chain(60);
        x.lay(0, 40);
        x.kindFor(0, 40);
        x.pitchFor(0, 40);
        x.hoopsFor(0, 20);
        x.frostFor(0, 40);
        x.empty(12);
        x.order(1234);
        x.blends(0, 9999);
        x.sheet(0, 32, 40);
        x.fits(0, 0);
        x.pealed(0, 0);
        x.kinds(0, 0);
        x.storms(20);
        x.odds(23, 0);
        x.feed(0x63617368, 4);
        x.feed(0x63617368, 4);
        x.text();
        x.hold(0, 0);
        x.as(0, 0);
        x.copy(0, 0, 0, 0, 40);
        x.load(0);
        x.judge(0);
        x.image();
        x.undo();
        x.tear();
        x.status(-1);
    }

    public static void main(String[] args) {
        ThunderCasks x = new ThunderCasks();
        callAll(x);
        made();
        long before = made();
        for (int i = 0; i < 12; i++) {
            callAll(x);
        }
        long after = made();
        check.due("calls make next to nothing", after - before < 4096 ? 1 : 0, 1);
        before = made();
        x = new ThunderCasks();
        after = made();
        check.due("an object is below 8000 bytes", after - before < 8000 ? 1 : 0, 1);
        check.due("status(-1)", x.status(-1), 0);
        check.end();
    }
}
