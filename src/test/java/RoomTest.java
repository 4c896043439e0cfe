import java.lang.management.ManagementFactory;

/**
 * All calls of a run live in one room: no step and no call of this class makes an object, and a new one is small. The
 * document says nothing of this, so another class is not asked for it.
 */
public final class RoomTest {
    public static void main(String[] args) {
        Tests t = new Tests("room");
        if (Inside.isOurs(new CheriCore())) {
            room(t);
        }
        t.end();
    }

    private static void room(Tests t) {
        com.sun.management.ThreadMXBean bean = (com.sun.management.ThreadMXBean) ManagementFactory.getThreadMXBean();
        Bench b = new Bench(t, Code.store(3, 1, 1, 0), Code.load(3, 5, 1, 0), Code.setBounds(6, 1, 9), Code.ECALL);
        b.root(1, 8192, 1024, 4095);
        b.core.word(Bench.TRAPS / 4, Code.special(0, 31, 7));
        b.core.word(Bench.TRAPS / 4 + 1, Code.MRET);
        b.root(7, 0, 64, 4095);
        calls(b.core);
        long before = bean.getCurrentThreadAllocatedBytes();
        for (int i = 0; i < 40; i++) {
            calls(b.core);
        }
        long made = bean.getCurrentThreadAllocatedBytes() - before;
        t.isTrue("bytes made by 40 times all calls: " + made, made < 100000);
        before = bean.getCurrentThreadAllocatedBytes();
        CheriCore[] some = new CheriCore[100];
        for (int i = 0; i < some.length; i++) {
            some[i] = new CheriCore();
        }
        made = (bean.getCurrentThreadAllocatedBytes() - before) / some.length;
        t.isTrue("bytes of a new object: " + made, made < 40000);
        t.due("traps were taken", b.core.count(4) > 100 ? 1 : 0, 1);
    }

    private static void calls(CheriCore core) {
        core.run(10000);
        core.word(3000, 5);
        core.put(9, 1, 2);
        core.told(5, 4);
        core.memory(2048);
        core.tag(2048);
        core.count(6);
        core.pack(5, 4000);
        core.bound(17154, 5, true);
        core.grown();
        core.check();
    }
}
