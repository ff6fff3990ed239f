import java.lang.management.ManagementFactory;

/** All calls of a run live in one room: an object is small, and its calls make nothing new. */
public final class RoomTest {
    private static final int OBJECT_BYTES = 40_000;
    private static final int CALLS_BYTES = 40_000;

    public static void main(String[] args) {
        Check check = new Check();
        com.sun.management.ThreadMXBean bean =
                (com.sun.management.ThreadMXBean) ManagementFactory.getThreadMXBean();
        long id = Thread.currentThread().getId();
        run(new ShopWindow());
        long ahead = bean.getThreadAllocatedBytes(id);
        ShopWindow x = new ShopWindow();
        long made = bean.getThreadAllocatedBytes(id);
        run(x);
        long behind = bean.getThreadAllocatedBytes(id);
        check.holds("an object takes " + (made - ahead) + " bytes", made - ahead < OBJECT_BYTES);
        check.holds("500 calls take " + (behind - made) + " bytes", behind - made < CALLS_BYTES);
        check.end();
    }

    private static void run(ShopWindow x) {
        for (int kind = 0; kind < 4; kind++) {
            x.kind(kind, 1, 4);
            x.kind(kind, 2, 5);
            x.kind(kind, 5, 100 + kind);
        }
        for (int i = 0; i < 25; i++) {
            x.thing(i % 5, 0, i % 10);
            x.say('a' + i % 5);
            x.window();
            x.say('h');
            x.law(i % 2);
            x.best(31, -1);
            x.many(i % 6);
            x.exchanges(2);
            x.rid(i % 5, -2);
            x.light(i % 5, i % 10);
            x.best(31, i % 5);
            x.stale(99);
            x.mends(99);
            x.shop(i % 11, i, true);
            x.lot(0);
            x.image(i % 2);
            x.restore(i % 2);
            x.does(i % 4, 2);
            x.told(i);
        }
    }
}
