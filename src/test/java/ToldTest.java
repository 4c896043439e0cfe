/** Promise 6. */
public final class ToldTest {
    public static void main(String[] args) {
        Tests t = new Tests("promise 6");
        CheriCore core = new CheriCore();
        core.root(36, 0x12340, 0x100, 0x8A5);
        int[] due = {1, 0x12340, (0x8A5 << 20 | 15 << 16 | core.pack(0x12340, 0x100) & 32767) ^ Bench.NULL_META,
            0x12340, 0x100, 0x8A5, 15};
        for (int what = 0; what < 7; what++) {
            t.due("told(36, " + what + ")", core.told(36, what), due[what]);
        }
        // IE, E 26: BASE 0 and TOP 2^32, of which one is too many to tell.
        core.put(7, 3, 0);
        t.due("the whole space", core.told(7, 4), -1);
        // IE, E 26, B 8, T 8 (72): BASE 2^29, TOP 2^32 + 2^29.
        core.put(7, 3, 0x4302 + 0x808 ^ 0x4302);
        t.due("BASE beyond", core.told(7, 3), 1 << 29);
        t.due("as long as the space", core.told(7, 4), -1);
        // IE, E 26, B 8, T 0 (128): BASE 2^29, TOP 0 (of 2^33), which is less.
        core.put(7, 3, 0x4302 + 0x008 ^ 0x4302);
        t.due("TOP below BASE", core.told(7, 4), -(1 << 29));
        for (int type = 0; type < 16; type++) {
            core.put(8, 0, (type ^ 15) << 16);
            t.due("TYPE", core.told(8, 6), type);
        }
        for (int r : new int[] {-1, 37, Integer.MAX_VALUE, Integer.MIN_VALUE}) {
            t.refused("register " + r, IndexOutOfBoundsException.class, () -> core.told(r, 0));
            t.refused("register first, " + r, IndexOutOfBoundsException.class, () -> core.told(r, 7));
        }
        for (int what : new int[] {-1, 7, Integer.MAX_VALUE, Integer.MIN_VALUE}) {
            t.refused("what " + what, IllegalArgumentException.class, () -> core.told(36, what));
            t.refused("what " + what + " of 0", IllegalArgumentException.class, () -> core.told(0, what));
        }
        t.end();
    }
}
