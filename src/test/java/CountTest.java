/** Promise 9. */
public final class CountTest {
    public static void main(String[] args) {
        Tests t = new Tests("promise 9");
        Bench b = new Bench(t, Code.NOP, Code.store(3, 1, 1, 0), Code.store(3, 1, 1, 24), Code.ECALL);
        b.root(1, 8192, 64, Bench.ALL);
        counts(t, b, "at first", 0, 0, 0, 0, 0, 3, 0);
        b.run(3);
        counts(t, b, "after three", 0, 0, 0, 3, 0, 3, 2);
        b.run(1);
        counts(t, b, "after a trap", 0, 11, 0, 4, 1, 3, 2);
        b.core.word(Bench.TRAPS / 4, 0);
        b.run(4);
        counts(t, b, "after illegal ones", 0, 2, 0, 8, 5, 3, 2);
        b.core.word(2048, 0);
        t.due("tags left", b.core.count(6), 1);
        for (int what : new int[] {-1, 7, Integer.MAX_VALUE, Integer.MIN_VALUE}) {
            t.refused("count(" + what + ")", IllegalArgumentException.class, () -> b.core.count(what));
        }
        halted(t);
        t.end();
    }

    private static void counts(Tests t, Bench b, String when, int... due) {
        for (int what = 0; what < 7; what++) {
            t.due("count(" + what + ") " + when, b.core.count(what), due[what]);
        }
    }

    private static void halted(Tests t) {
        CheriCore core = new CheriCore();
        core.root(32, 16, 4, Bench.LOAD);
        t.due("steps until it is halted", core.run(100), 1);
        t.due("halted", core.count(0), 1);
        t.due("cause", core.count(1), 28);
        t.due("value", core.count(2), 1041);
        t.due("steps", core.count(3), 1);
        t.due("traps", core.count(4), 1);
    }
}
