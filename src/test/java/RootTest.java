/** Promise 3. */
public final class RootTest {
    public static void main(String[] args) {
        Tests t = new Tests("promise 3");
        ordinary(t);
        registers(t);
        edges(t);
        refusals(t);
        t.end();
    }

    private static void ordinary(Tests t) {
        CheriCore core = new CheriCore();
        t.due("an exact root", core.root(1, 8192, 256, 5), 8192);
        t.due("roots", core.count(5), 1);
        t.due("TAG", core.told(1, 0), 1);
        t.due("ADDRESS", core.told(1, 1), 8192);
        t.due("length", core.told(1, 4), 256);
        t.due("PERMS", core.told(1, 5), 5);
        t.due("TYPE", core.told(1, 6), 15);
        t.due("META", core.told(1, 2), (5 << 20 | 15 << 16 | core.pack(8192, 256) & 32767) ^ Bench.NULL_META);
        // 4095 bytes at 1000: 17 units of 256, so units of 512: from 512 to 5120.
        t.due("a rounded root", core.root(1, 1000, 4095, 4095), 512);
        t.due("its ADDRESS", core.told(1, 1), 1000);
        t.due("its BASE", core.told(1, 3), 512);
        t.due("its length", core.told(1, 4), 4608);
        t.due("its PERMS", core.told(1, 5), 4095);
        t.due("grown()", core.grown(), 0);
    }

    private static void registers(Tests t) {
        for (int r = 1; r < 37; r++) {
            CheriCore core = new CheriCore();
            core.root(r, 64 * r, 32, r);
            for (int other = 0; other < 37; other++) {
                t.due("TAG of " + other, core.told(other, 0), other == r ? 1 : 0);
                t.due("ADDRESS of " + other, core.told(other, 1), other == r ? 64 * r : 0);
            }
        }
    }

    private static void edges(Tests t) {
        CheriCore core = new CheriCore();
        t.due("the last byte", core.root(2, -1, 1, 0), -1);
        t.due("the last byte's length", core.told(2, 4), 1);
        t.due("nothing at the end", core.root(2, -1, 0, 4095), -1);
        t.due("the longest", core.root(3, 0, Integer.MAX_VALUE, 0), 0);
        t.due("the longest, rounded up", core.told(3, 4), Integer.MIN_VALUE);
        t.due("the upper half", core.root(4, Integer.MIN_VALUE, Integer.MAX_VALUE, 0), Integer.MIN_VALUE);
        t.due("the upper half's length", core.told(4, 4), Integer.MIN_VALUE);
        t.due("nothing at 0", core.root(5, 0, 0, 0), 0);
        t.due("roots", core.count(5), 5);
        t.due("grown()", core.grown(), 0);
    }

    private static void refusals(Tests t) {
        CheriCore core = new CheriCore();
        for (int r : new int[] {0, -1, 37, Integer.MAX_VALUE, Integer.MIN_VALUE}) {
            t.refused("register " + r, IndexOutOfBoundsException.class, () -> core.root(r, 0, 8, 0));
            t.refused("register first, " + r, IndexOutOfBoundsException.class, () -> core.root(r, 0, -8, 4096));
        }
        Class<IllegalArgumentException> wrong = IllegalArgumentException.class;
        t.refused("length -1", wrong, () -> core.root(1, 0, -1, 0));
        t.refused("length least", wrong, () -> core.root(1, -1, Integer.MIN_VALUE, 0));
        t.refused("beyond by one", wrong, () -> core.root(1, -1, 2, 0));
        t.refused("far beyond", wrong, () -> core.root(1, -2, Integer.MAX_VALUE, 0));
        t.refused("perms -1", wrong, () -> core.root(1, 0, 8, -1));
        t.refused("perms 4096", wrong, () -> core.root(1, 0, 8, 4096));
        t.due("roots after what was refused", core.count(5), 0);
        t.due("TAG after what was refused", core.told(1, 0), 0);
        for (int i = 0; i < 8; i++) {
            t.due("root " + i, core.root(1 + i, 16 * i, 16, 1), 16 * i);
        }
        t.refused("a ninth", IllegalStateException.class, () -> core.root(20, 0, 8, 0));
        t.refused("a ninth that is wrong", wrong, () -> core.root(20, 0, -1, 0));
        t.refused("a ninth of no register", IndexOutOfBoundsException.class, () -> core.root(37, 0, 8, 0));
        t.due("roots", core.count(5), 8);
        t.due("register of the ninth", core.told(20, 0), 0);
    }
}
