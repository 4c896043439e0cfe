import java.util.Random;

/** Promise 10, and that bounds that were packed are told by promise 11. */
public final class PackTest {
    private static final long TWO_32 = 1L << 32;

    /** An object is used for at most 512 calls. */
    private static CheriCore core;
    private static int calls;

    public static void main(String[] args) {
        Tests t = new Tests("promise 10");
        known(t, new CheriCore());
        refusals(t, new CheriCore());
        for (int length = 0; length < 600; length++) {
            for (int base = 0; base < 300; base += 7) {
                holds(t, base, length);
                holds(t, -base - 1, Math.min(length, base + 1));
            }
        }
        Random random = new Random(10);
        for (int i = 0; i < 200000; i++) {
            long base = random.nextLong() >>> 32 + random.nextInt(32);
            long length = Math.min(TWO_32 - base, random.nextLong() >>> 31 + random.nextInt(33));
            holds(t, (int) base, length);
            holds(t, (int) base, TWO_32 - base);
        }
        t.end();
    }

    private static void known(Tests t, CheriCore core) {
        t.due("nothing", core.pack(0, 0), 32768);
        t.due("63 at 200", core.pack(200, 63), 32768 | 263 % 64 << 8 | 200);
        t.due("64 at 8", core.pack(8, 64), 32768 | 16384 | 8 << 8 | 8);
        t.due("119 at 8", core.pack(8, 119), 16384 | 0 << 8 | 8);
        t.due("120 at 8", core.pack(8, 120), 32768 | 16384 | 0 << 8 | 8);
        // 127 at 8: from 8 to 136 are 16 units of 8, so units of 16: from 0 to 144.
        t.due("127 at 8", core.pack(8, 127), 16384 | 8 << 8 | 1);
        // 127 at 4: from 0 to 136 are 17 units of 8, so units of 16: from 0 to 144; e is 1, 144 / 2 mod 64 is 8.
        t.due("127 at 4", core.pack(4, 127), 16384 | 8 << 8 | 1);
        // 256 at 255: e is 2, units of 32: from 224 to 512; 224 / 4 is 56, 512 / 4 mod 64 is 0.
        t.due("256 at 255", core.pack(255, 256), 16384 | 56 | 2);
        t.due("2^31 at 2^31", core.pack(Integer.MIN_VALUE, 1L << 31), 32768 | 16384 | 3 << 8 | 64 | 1);
        t.due("all but a byte", core.pack(1, TWO_32 - 1), 17154);
        t.due("all", core.pack(0, TWO_32), 49922);
    }

    private static void refusals(Tests t, CheriCore core) {
        Class<IllegalArgumentException> wrong = IllegalArgumentException.class;
        t.refused("length -1", wrong, () -> core.pack(0, -1));
        t.refused("least length", wrong, () -> core.pack(0, Long.MIN_VALUE));
        t.refused("most length", wrong, () -> core.pack(-1, Long.MAX_VALUE));
        t.refused("beyond by one", wrong, () -> core.pack(0, TWO_32 + 1));
        t.refused("beyond by one, from the end", wrong, () -> core.pack(-1, 2));
        t.refused("beyond from the middle", wrong, () -> core.pack(Integer.MIN_VALUE, (1L << 31) + 1));
        t.due("up to the end", core.pack(-1, 1), 32768 | 255);
    }

    /** Bounds that come back hold what was asked for, no more than is needed, and just that if it was EXACT. */
    private static void holds(Tests t, int base, long length) {
        core = calls % 510 == 0 ? new CheriCore() : core;
        calls += 3;
        long from = Integer.toUnsignedLong(base);
        int packed = core.pack(base, length);
        long low = core.bound(packed & 32767, base, false);
        long high = core.bound(packed & 32767, base, true);
        boolean exact = (packed & 32768) != 0;
        boolean inside = low <= from && from + length <= high && high <= TWO_32;
        boolean near = high - low - length <= length / 3;
        t.isTrue("packed " + from + ", " + length, inside && near && exact == (low == from && high == from + length));
        t.isTrue("exact up to 63: " + length, exact || length > 63);
    }
}
