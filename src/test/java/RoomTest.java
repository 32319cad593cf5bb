import com.sun.management.ThreadMXBean;
import java.lang.management.ManagementFactory;

/** All calls of a run live in one room: a new object is small, and no call makes an object. */
public final class RoomTest {
    private static final Checks CHECK = new Checks();
    private static final ThreadMXBean BEAN = (ThreadMXBean) ManagementFactory.getThreadMXBean();

    public static void main(String[] args) {
        WornWigs warm = new WornWigs();
        callAll(warm);
        long before = allocated();
        WornWigs x = new WornWigs();
        long made = allocated() - before;
        System.out.println("a new object takes " + made + " bytes");
        CHECK.due("a new object is small", true, made < 100_000);
        before = allocated();
        for (int i = 0; i < 12; i++) {
            callAll(x);
        }
        long more = allocated() - before;
        System.out.println("its calls take " + more + " bytes");
        CHECK.due("its calls make nothing", true, more < 2_000);
        CHECK.end();
    }

    private static long allocated() {
        return BEAN.getThreadAllocatedBytes(Thread.currentThread().getId());
    }

    /** Every method of the face, on a bench that is full after some rounds. */
    private static void callAll(WornWigs x) {
        x.state(5);
        x.wig(1, 50);
        x.judge(70, 3);
        x.trial(2, 20);
        x.rule(0, 2, 4, 9);
        x.set(0, 0, 50);
        x.act(0, 0, 0);
        x.tries(0, 0);
        x.act(3, 0, 5);
        x.feed(0x6d6f7468, 0x20616765, 0x20776865, 0x6e206e6f, 0x7420313d);
        x.feed(0x323b2020, 0x20202020, 0x20202020, 0x20202020, 0x20202020);
        x.end(35);
        x.text(0);
        x.fault(0);
        x.years(3);
        x.image(true);
        x.goes(60, 1);
        x.of(0, 6);
        x.ruleOf(0, 0, 10);
        x.who(0, 5);
        x.trialOf(0, 2);
        x.book(0, 1);
        x.would(0, 0);
        x.forum(0, 0);
        x.panels(0, 0);
        x.combs(0, 1);
        x.alike(0, -1);
        x.heir(0, 1);
        x.kin(0, -1);
        x.saves(100, 1);
        x.trait(1, 5, true);
        x.whose(1);
        x.cite(1, 2);
        x.chain(0);
        x.parcel(1, 1, 5);
        x.cut(2);
        x.hard(3, 3);
        x.hears(10);
        x.game(0);
        x.undo();
        x.image(false);
        x.look(5);
    }
}
