/** Promise 4. */
public final class PutTest {
    public static void main(String[] args) {
        Tests t = new Tests("promise 4");
        CheriCore core = new CheriCore();
        for (int r = 1; r < 32; r++) {
            core.put(r, -r, r << 20);
            t.due("TAG " + r, core.told(r, 0), 0);
            t.due("ADDRESS " + r, core.told(r, 1), -r);
            t.due("META " + r, core.told(r, 2), r << 20);
            t.due("PERMS " + r, core.told(r, 5), r);
            t.due("TYPE " + r, core.told(r, 6), 15);
            t.due("BASE " + r, core.told(r, 3), 0);
            t.due("length " + r, core.told(r, 4), -1);
        }
        core.put(5, 7, -1);
        t.due("PERMS, all bits turned", core.told(5, 5), 4095);
        t.due("TYPE, all bits turned", core.told(5, 6), 0);
        t.due("META, all bits turned", core.told(5, 2), -1);
        core.root(6, 64, 64, 4095);
        core.put(6, 64, core.told(6, 2));
        t.due("TAG of a root that was put again", core.told(6, 0), 0);
        t.due("BASE of it", core.told(6, 3), 64);
        t.due("length of it", core.told(6, 4), 64);
        for (int r : new int[] {0, 32, 33, 36, -1, Integer.MAX_VALUE, Integer.MIN_VALUE}) {
            t.refused("register " + r, IndexOutOfBoundsException.class, () -> {
                core.put(r, 1, 1);
                return 0;
            });
        }
        t.due("register 0", core.told(0, 1), 0);
        t.due("PCC", core.told(32, 1), 0);
        t.end();
    }
}
