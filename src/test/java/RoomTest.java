import com.sun.management.ThreadMXBean;
import java.lang.management.ManagementFactory;

/** What a whole run makes must be small: all calls of a run live in one room. */
public final class RoomTest {
    /** Far below the room's 7.3 million elements, though an object is used to its last call. */
    private static final long BYTES_MOST = 400_000;

    private RoomTest() {
    }

    private static void run() {
        PaperRiver x = new PaperRiver();
        for (int i = 0; i < 6; i++) {
            Texts.feed(x, "join one<many and not [long=8 or other=8] and same*day%7<5");
            x.rule();
        }
        x.force(5);
        for (int i = 0; i < 10; i++) {
            Texts.feed(x, "river 16;flow 15 0;dam 1;dam 2;mill 3 a;scrap 0 ab");
            x.river();
            x.image(3);
        }
        for (int i = 0; i < 40; i++) {
            x.drop(i % 16, 12);
            x.day();
            x.net(i % 16, 1 + i % 2);
            x.image(i % 4);
            x.fleet(x.count(8), 0);
            x.put(123, 7, 60, 0);
            x.rows(x.count(8) & 255, 0);
            x.seen(123, 9, 0);
            x.gates(60, 0);
            x.years(10, 60, 0);
            x.back(i % 3);
        }
    }

    public static void main(String[] args) {
        ThreadMXBean bean = (ThreadMXBean) ManagementFactory.getThreadMXBean();
        long thread = Thread.currentThread().getId();
        run();
        long before = bean.getThreadAllocatedBytes(thread);
        run();
        long made = bean.getThreadAllocatedBytes(thread) - before;
        if (made > BYTES_MOST) {
            System.out.println("a run makes " + made + " bytes, due are at most " + BYTES_MOST);
            System.exit(1);
        }
        System.out.println("a run makes " + made + " bytes");
    }
}
