import com.sun.management.ThreadMXBean;
import java.lang.management.ManagementFactory;

/** All calls of a run live in one room: what an object takes when it is made, and that calls take nothing. */
public final class RoomTest {
    private static final ThreadMXBean THREADS = (ThreadMXBean) ManagementFactory.getThreadMXBean();
    private static final Check CHECK = new Check();
    private static long sum;

    public static void main(String[] args) {
        long before = taken();
        sum += new HymnLamps().ground(0);
        sum += new HymnLamps().ground(0);
        long made = taken();
        HymnLamps x = new HymnLamps();
        long one = taken() - made;
        CHECK.due("bytes of an object are few: " + one, before >= 0 && one < 40000, true);
        for (int round = 0; round < 3; round++) {
            calls(x);
        }
        long start = taken();
        for (int round = 0; round < 20; round++) {
            calls(x);
        }
        long calls = taken() - start;
        CHECK.due("bytes of calls are none: " + calls, calls < 5000, true);
        CHECK.due("something was answered", sum != 0, true);
        CHECK.done();
    }

    private static long taken() {
        return THREADS.getThreadAllocatedBytes(Thread.currentThread().getId());
    }

    /** "total lit;" and a ground, put on the tape by numbers, as a text would take room itself. */
    private static void calls(HymnLamps x) {
        x.end(0);
        // ground 3 3;person a
        x.feed(0x67726F75, 0x6E642033, 0x20333B70, 0x6572736F, 0x6E206120);
        // at 0 0 lamp 1 walks
        x.feed(0x61742030, 0x2030206C, 0x616D7020, 0x31207761, 0x6C6B7320);
        // es;word u at 1 0 lam
        x.feed(0x65733B77, 0x6F726420, 0x75206174, 0x20312030, 0x206C616D);
        // p 1;hymn u beat 1;
        x.feed(0x7020313B, 0x68796D6E, 0x20752062, 0x65617420, 0x313B2020);
        sum += x.text();
        x.feed(0x746F7461, 0x6C206C69, 0x742B6D69, 0x6E286174, 0x20302C35);
        x.feed(0x29202020, 0x20202020, 0x20202020, 0x20202020, 0x20202020);
        sum += x.ask();
        x.feed(0, 0, 0, 0, 0);
        x.end(9);
        x.paint();
        for (int k = -1; k < 12; k++) {
            sum += x.ground(k) + x.letter(0, 0, k) + x.person(0, k) + x.word(0, k) + x.hymn(0, k) + x.where(0, k);
            sum += x.lit(1, k) + x.clash(k) + x.clashes() + x.still(k) + x.read(k, true) + x.far(k, 0, false);
            sum += x.nearest(1, k) + x.said(k) + x.between(k, 20) + x.danger(k) + x.least(k, 0, 0) + x.soon(k, 0);
            sum += x.way(k, 0, 0, 0) + x.steps(0, k) + x.missed(k, 0) + x.alike(k) + x.learn(0, 0) + x.image() + x.octet(k);
            x.lamp(0, 2);
            x.undo();
            x.feed(0x6E656E65, 0, 0, 0, 0);
            x.end(4);
            x.teach(0);
            x.feed(0x6E656E65, 0, 0, 0, 0);
            x.on();
        }
    }
}
