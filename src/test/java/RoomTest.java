import com.sun.management.ThreadMXBean;
import java.lang.management.ManagementFactory;

/** A run's calls share one room: an object makes its rows once, and no call makes anything. */
public final class RoomTest {
    private static final String DEAR = "chair a 1;chair b 2;chair c 3;chair d 4;head e 1 90 80 70 60;head f 2 50 50 50 50;"
        + "head g 3 1 2 3 4;head h 4 9 9 9 9;head i 5 99 0 0 0;visit e a 1;visit f b 1;visit g c 2;visit h d 3;"
        + "keeps=own/(oil+1);passes=cloth/2;fades=own/50;washes=cloth-mesh;says 500;moth 30;monday 1;";

    private RoomTest() {
    }

    public static void main(String[] args) {
        ThreadMXBean bean = (ThreadMXBean) ManagementFactory.getThreadMXBean();
        // once ahead: what the machine itself makes at the first use is not ours
        cost(bean, 0);
        cost(bean, 40);
        long made = cost(bean, 0);
        Checks.due("bytes of a new object: " + made, true, made < 60_000);
        long dear = cost(bean, 40);
        Checks.due("bytes that calls made: " + (dear - made), true, dear - made < 2_000);
        Checks.end("RoomTest");
    }

    private static long cost(ThreadMXBean bean, int rounds) {
        int[][] text = Checks.words(DEAR);
        int padding = Checks.padding(DEAR);
        long before = bean.getCurrentThreadAllocatedBytes();
        HeadCloths x = new HeadCloths();
        for (int i = 0; i < rounds; i++) {
            for (int[] w : text) {
                x.feed(w[0], w[1], w[2], w[3], w[4]);
            }
            x.back(padding);
            x.read();
            callAll(x);
        }
        return bean.getCurrentThreadAllocatedBytes() - before;
    }

    private static void callAll(HeadCloths x) {
        x.sit(0, 0);
        x.wash(0);
        x.starch(1);
        x.change(0, 1);
        x.keep(0, false);
        x.hours(72);
        x.undo();
        x.sittings(0, 0, -1);
        x.alone(0, 0, 0);
        x.bestChair(0, 0);
        x.when(0, 0);
        x.meet(0, 1, 72);
        x.without(0, 0, 72);
        x.alike(0);
        x.agree(1);
        x.silent(0);
        x.lost(72);
        x.clean(1);
        x.headIn(0, 0, 72);
        x.year(0, 0, 72, 20);
        x.tell(0, 0, 5, true);
        x.who(1, 1);
        x.look(1, 5);
        x.hold(0);
        x.restore(0);
        x.count(6);
    }
}
