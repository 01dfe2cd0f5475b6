import com.sun.management.ThreadMXBean;
import java.lang.management.ManagementFactory;

/** Only the constructor makes objects: no call does, whatever it is asked. */
public final class RoomTest {
    private static final int OBJECTS = 200;
    /** All arrays of an object, with their heads, and what the measuring itself makes. */
    private static final long MOST_BYTES_AN_OBJECT = 8_000;
    private static final long MOST_BYTES_OF_CALLS = 20_000;

    public static void main(String[] args) {
        ThreadMXBean bean = (ThreadMXBean) ManagementFactory.getThreadMXBean();
        long thread = Thread.currentThread().getId();
        DearAsMany[] all = new DearAsMany[OBJECTS];
        useAll(new DearAsMany());
        long begin = bean.getThreadAllocatedBytes(thread);
        for (int k = 0; k < OBJECTS; k++) {
            all[k] = new DearAsMany();
        }
        long made = bean.getThreadAllocatedBytes(thread);
        long sum = 0;
        for (DearAsMany x : all) {
            sum += useAll(x);
        }
        long used = bean.getThreadAllocatedBytes(thread);
        Due due = new Due();
        due.is("room of an object", (made - begin) / OBJECTS <= MOST_BYTES_AN_OBJECT ? 0 : (made - begin) / OBJECTS, 0);
        due.is("room of all calls", used - made <= MOST_BYTES_OF_CALLS ? 0 : used - made, 0);
        due.is("all answer alike", sum % OBJECTS, 0);
        due.end();
    }

    private static long useAll(DearAsMany x) {
        long sum = 0;
        for (int k = 0; k < 4; k++) {
            sum += x.write(8, 0x70302C392C392C30L) + x.write(3, 0x2C393B) + x.fault() + x.lay();
            sum += x.buy(1) + x.toss(0) + x.buy(1) + x.sell(0, 1) + x.undo() + x.keep() + x.seen(0, k, true);
            for (int i = -1; i < 3; i++) {
                sum += x.person(i, 1) + x.worth(i, 1) + x.price(i) + x.would(i) + x.place(i, 1) + x.burn(i) + x.likes(i, 0);
                sum += x.behind(60, i == 0) + x.rest(i == 0, i) + x.rests(i) + x.tip(1, i == 0, i) + x.year(9, 100, i) + x.count(i);
            }
            sum += x.share() + x.back() + x.forget();
        }
        return sum + x.wipe();
    }
}
