import java.lang.management.ManagementFactory;

/** All that a run needs is made with the object: even the dearest calls make nothing, and they end soon. */
public final class MemoryTest {
    private static final Due due = new Due();
    private static final int ROUNDS = 2;

    public static void main(String[] args) {
        var bean = (com.sun.management.ThreadMXBean) ManagementFactory.getThreadMXBean();
        long self = Thread.currentThread().getId();
        NightGarrison x = furnished();
        dearest(x);
        long before = bean.getThreadAllocatedBytes(self);
        long start = System.nanoTime();
        for (int i = 0; i < ROUNDS; i++) {
            dearest(x);
        }
        long millis = (System.nanoTime() - start) / 1000000;
        long made = bean.getThreadAllocatedBytes(self) - before;
        due.part("the dearest calls");
        due.isTrue("they make nothing (" + made + " bytes)", made < 20000);
        due.isTrue("they end soon (" + millis + " ms)", millis < 60000);
        long first = bean.getThreadAllocatedBytes(self);
        NightGarrison y = new NightGarrison();
        long size = bean.getThreadAllocatedBytes(self) - first;
        due.isTrue("an object is small (" + size + " bytes)", y.count(0) == 0 && size < 100000);
        due.end();
    }

    private static NightGarrison furnished() {
        NightGarrison x = new NightGarrison();
        x.mend(0, 4, 2);
        for (int r = 0; r < 36; r++) {
            x.mend(r, 1, r % 10);
            x.mend(r, 2, r % 3 == 0 ? 1 : 0);
            x.mend(r, 0, r % 5 == 0 ? r : 0);
        }
        x.row(0, 3, 60);
        for (int i = 0; i < 49; i++) {
            x.put(0, i, x.map(i));
        }
        x.body(7);
        return x;
    }

    private static void dearest(NightGarrison x) {
        Due.law(x, "h%3=0?d*d+g/3-l*l+c;(d+g-l*2)*(c+1)/(h%4+1)-!!(l>d)+(((w+1)*9999)%7)/3;d");
        x.stubs(2, 12, 2);
        x.round(14, 4, 0);
        x.byTurns(236, 0);
        x.drawn(7, 302406, -1);
        x.enough(14, 24);
        x.wayIn(14, 1);
        x.still();
        x.judge(0);
        x.draughts(0, 5, 1);
        x.holds(0, 1);
        x.act(0, 3, 5);
        x.hour();
        x.image();
        x.back();
        x.undo();
        x.redo();
        x.row(1, 0, 60);
        x.rooms(1, 0, 20);
        x.shift(1, 0, 1, 5, 20);
        x.keep(1, 0);
        x.taken(1, 0);
    }
}
