/** Promise 11. */
public final class BoundTest {
    public static void main(String[] args) {
        Tests t = new Tests("promise 11");
        known(t, new CheriCore());
        CheriCore core = new CheriCore();
        int[] addresses = {0, 1, 31, 32, 255, 256, 0x1234, 0x7FFFFFFF, 0x80000000, 0x89ABCDEF, -1, -32, -256, -100000};
        for (int meta = 0; meta < 32768; meta++) {
            // An object is used for at most 512 calls.
            core = meta % 16 == 0 ? new CheriCore() : core;
            for (int address : addresses) {
                for (int k = 0; k < 2; k++) {
                    long due = k == 0 ? PlainModel.endsOf(meta, address).base() : PlainModel.endsOf(meta, address).top();
                    long got = core.bound(meta | address << 15, address, k == 1);
                    t.due("bound(" + meta + ", " + address + ", " + (k == 1) + ")", got, due);
                }
            }
        }
        t.end();
    }

    private static void pair(Tests t, CheriCore core, int meta, int address, long base, long top) {
        t.due("BASE of " + meta + " at " + address, core.bound(meta, address, false), base);
        t.due("TOP of " + meta + " at " + address, core.bound(meta, address, true), top);
    }

    /** Worked out by hand from the document's words. */
    private static void known(Tests t, CheriCore core) {
        pair(t, core, 0, 0, 0, 0);
        pair(t, core, 17154, 5, 0, 1L << 32);
        pair(t, core, 17154, -1, 0, 1L << 32);
        // Without IE: B 200, T 263 mod 64; from 200 to 263 while a is within 160 below or 95 above.
        pair(t, core, 7 << 8 | 200, 200, 200, 263);
        pair(t, core, 7 << 8 | 200, 263, 200, 263);
        pair(t, core, 7 << 8 | 200, 415, 200, 263);
        pair(t, core, 7 << 8 | 200, 416, 456, 519);
        pair(t, core, 7 << 8 | 200, 160, 200, 263);
        pair(t, core, 7 << 8 | 200, 159, 4294967240L, 4294967303L);
        // B 0 at the end of the space: its bounds are those that begin the next 256, that is at 0 again.
        pair(t, core, 5 << 8, -1, 0, 5);
        pair(t, core, 5 << 8, -33, 4294967040L, 4294967045L);
        // IE, E 24: 64 of 2^24 from 2^30, so up to 2^31.
        pair(t, core, 16384 | 3 << 8 | 64, 1 << 30, 1L << 30, 1L << 31);
        // IE, E 25, B 128: no bit of TOP is turned.
        pair(t, core, 16384 | 3 << 8 | 128 | 1, 0, 0, 192L << 25);
        // IE, E 26, B 64, T 8: 136, of which 2^33 leaves 8.
        pair(t, core, 16384 | 11 << 8 | 64 | 2, 9, 0, 8L << 26);
        // An E above 26 is 26.
        pair(t, core, 16384 | 7 << 8 | 7, 9, 0, 1L << 32);
    }
}
