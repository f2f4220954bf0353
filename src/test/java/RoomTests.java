import com.sun.management.ThreadMXBean;
import java.lang.management.ManagementFactory;

/** A new object is small, and no call makes objects: a run of 512 calls needs no more room than its object. */
public final class RoomTests {
    private static final ThreadMXBean ROOM = (ThreadMXBean) ManagementFactory.getThreadMXBean();
    private static int wrong = 0;
    private static int sum = 0;

    public static void main(String[] args) {
        new HourHouse();
        long before = used();
        HourHouse x = new HourHouse();
        long made = used() - before;
        due("a new object", made, 60000);
        fillUp(x);
        dearest(x);
        before = used();
        for (int i = 0; i < 12; i++) dearest(x);
        due("some 280 calls", used() - before, 2000);
        System.out.println(wrong == 0 ? "the room is as due (" + sum + ")" : "the room is not as due");
        if (wrong != 0) System.exit(1);
    }

    private static long used() {
        return ROOM.getThreadAllocatedBytes(Thread.currentThread().getId());
    }

    private static void due(String what, long got, long most) {
        if (got > most) {
            wrong++;
            System.out.println(what + " used " + got + " bytes, at most " + most + " are due");
        }
    }

    private static void fillUp(HourHouse x) {
        for (int i = 0; i < 8; i++) x.person(i % 4, 100 + i);
        for (int i = 0; i < 5; i++) x.client();
        for (int i = 0; i < 10; i++) x.matter(2, i % 5, 99999);
        for (int i = 0; i < 8; i++) x.free(i, 9999);
        x.sheet(0, 20);
        x.sheet(1, 20);
        text(x);
        for (int i = 0; i < 89; i++) x.entry(i % 8, i < 60 ? 0 : i % 10, 0, 1000 * i + 100, 0);
        for (int i = 0; i < 10; i++) x.bill(i, 0, 5);
        for (int i = 0; i < 59; i++) x.door(0, 0, 1000 * i + 100);
        for (int i = 0; i < 6; i++) x.task(0, 10, 0);
    }

    private static void text(HourHouse x) {
        // parts n+m*m*(m+(n+ .. rate r+m)
        x.feed(0x70617274, 0x73206e2b, 0x6d2a6d2a);
        x.feed(0x286d2b28, 0x6e2b6d29, 0x29207261);
        x.feed(0x74652072, 0x2b6d2020, 0x20202020);
        sum += x.terms(0, 0);
    }

    private static void dearest(HourHouse x) {
        sum += x.keep();
        sum += x.entry(0, 0, 0, 1, 0) + x.door(0, 0, 1);
        sum += x.worth(0, 0, 3) + x.worth(59, 0, 2) + x.stage(0, 1) + x.foretold(0, 0);
        sum += x.bill(0, 0, 3) + x.middle(0) + x.contest(0) + x.written(0, 0, 0, 3);
        sum += x.plan(30000) + x.planned(30000, 0) + x.tell(1) + x.check();
        sum += x.copy(0, 0, 1, 0, 20) + x.lay(0) + x.count(11);
        text(x);
        sum += x.back();
    }
}
