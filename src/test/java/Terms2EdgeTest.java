/** The edges that Terms 2 names of BOUNDS. All numbers are worked out by hand from the document's words. */
public final class Terms2EdgeTest {
    private static final long TWO_29 = 1L << 29;
    private static final long TWO_30 = 1L << 30;
    private static final long TWO_31 = 1L << 31;
    private static final long TWO_32 = 1L << 32;

    private final Tests t;
    private final CheriCore core = new CheriCore();

    private Terms2EdgeTest(Tests t) {
        this.t = t;
    }

    public static void main(String[] args) {
        Tests t = new Tests("Terms 2, edges of BOUNDS");
        new Terms2EdgeTest(t).exponents();
        new Terms2EdgeTest(t).lowBits();
        new Terms2EdgeTest(t).withoutExponent();
        new Terms2EdgeTest(t).bitsAboveT();
        new Terms2EdgeTest(t).middle();
        new Terms2EdgeTest(t).edge();
        new Terms2EdgeTest(t).below();
        new Terms2EdgeTest(t).wraps();
        new Terms2EdgeTest(t).turned();
        inBounds(t);
        t.end();
    }

    private void pair(int meta, long address, long base, long top) {
        t.due("BASE of " + meta + " at " + address, core.bound(meta, (int) address, false), base);
        t.due("TOP of " + meta + " at " + address, core.bound(meta, (int) address, true), top);
    }

    /** Without IE. */
    private static int plain(int high, int low) {
        return high << 8 | low;
    }

    /** With IE; of T and B the lowest three bits are those of E. */
    private static int scaled(int e, int high, int low) {
        return 1 << 14 | (high | e / 8) << 8 | low | e % 8;
    }

    /** T and B are 0, so that TOP is 64 of 2^E. */
    private void exponents() {
        t.says("E is 8 (T mod 8) + B mod 8, 26 at most,");
        for (int e = 0; e < 64; e++) {
            pair(scaled(e, 0, 0), 0, 0, 64L << (e < 26 ? e : 26));
        }
        pair(scaled(25, 0, 0), 0, 0, TWO_31);
        pair(scaled(26, 0, 0), 0, 0, TWO_32);
        pair(scaled(27, 0, 0), 0, 0, TWO_32);
        pair(scaled(32, 0, 0), 0, 0, TWO_32);
        pair(scaled(63, 0, 0), 0, 0, TWO_32);
    }

    private void lowBits() {
        t.says("and these low bits of T and B count as 0;");
        pair(scaled(2, 0, 8), 0, 8 << 2, 128 << 2);
        pair(scaled(7, 56, 56), 56 << 7, 56 << 7, 120 << 7);
        // Of T it is 3, of B 0; counted they would be 75 of 2^24.
        pair(scaled(24, 8, 0), 0, 0, 72L << 24);
        // T's six are 8, as B's lowest six are: were B's 7 counted, T's would be below.
        pair(scaled(7, 8, 8), 0, 8 << 7, 72 << 7);
    }

    private void withoutExponent() {
        t.says("else E is 0.");
        pair(plain(7, 7), 0, 7, 7);
        pair(plain(8, 7), 0, 7, 8);
        pair(plain(63, 0), 0, 0, 63);
        pair(plain(63, 7), 0, 7, 63);
    }

    private void bitsAboveT() {
        t.says("Above its six bits T has two more: bits 6, 7 of B, and 1 if T's six are below B's lowest six, and IE,"
            + " mod 4.");
        pair(plain(6, 64 + 6), 70, 70, 70);
        pair(plain(5, 64 + 6), 70, 70, 128 + 5);
        pair(plain(7, 64 + 6), 70, 70, 71);
        pair(plain(0, 128), 128, 128, 128);
        pair(plain(0, 129), 129, 129, 192);
        // Bits 6, 7 are 3: with 1 more they are 0, which is in the next 256.
        pair(plain(63, 255), 255, 255, 255);
        pair(plain(62, 255), 255, 255, 256 + 62);
        pair(scaled(0, 56, 192 + 56), 248, 248, 256 + 56);
        pair(scaled(0, 48, 192 + 56), 248, 248, 256 + 64 + 48);
        pair(scaled(0, 8, 8), 8, 8, 72);
        pair(scaled(0, 0, 8), 8, 8, 128);
        pair(scaled(0, 16, 8), 8, 8, 80);
    }

    /** B is 64, so R is 1: where m is below 32, its 256 are those of the 256 before. */
    private void middle() {
        t.says("m are bits E to E + 7 of a,");
        for (int e = 3; e < 12; e += 4) {
            int meta = scaled(e, 0, 64);
            long unit = 1L << e;
            pair(meta, 1024 * unit + 31 * unit, 832 * unit, 896 * unit);
            pair(meta, 1024 * unit + 32 * unit - 1, 832 * unit, 896 * unit);
            pair(meta, 1024 * unit + 32 * unit, 1088 * unit, 1152 * unit);
            pair(meta, 1024 * unit + 255 * unit, 1088 * unit, 1152 * unit);
            pair(meta, 1024 * unit + 256 * unit, 1088 * unit, 1152 * unit);
        }
        // E is 26, and m has but the six bits that there are: B is 0, so R is 7, and m is always below.
        pair(scaled(26, 0, 0), 0, 0, TWO_32);
        pair(scaled(26, 0, 0), -1, 0, TWO_32);
        // E is 25: R is 2 of B 96, but a whole 2^33 more or less is nothing.
        pair(scaled(25, 32, 96), (64L << 25) - 1, 96L << 25, 160L << 25);
        pair(scaled(25, 32, 96), 64L << 25, 96L << 25, 160L << 25);
    }

    private void edge() {
        t.says("R is B / 32 - 1 (of three bits),");
        // B / 32 is 0, so R is 7: from 224 on the next 256 are meant.
        pair(plain(5, 0), 256 + 223, 256, 261);
        pair(plain(5, 0), 256 + 224, 512, 517);
        pair(plain(40, 31), 256 + 223, 256 + 31, 256 + 40);
        pair(plain(40, 31), 256 + 224, 512 + 31, 512 + 40);
        // R is 0: nothing is below it.
        pair(plain(40, 32), 256, 256 + 32, 256 + 40);
        pair(plain(40, 32), 511, 256 + 32, 256 + 40);
        pair(plain(40, 32), 255, 32, 40);
        // R is 1.
        pair(plain(5, 64), 256 + 31, 64, 69);
        pair(plain(5, 64), 256 + 32, 256 + 64, 256 + 69);
        // R is 6.
        pair(plain(63, 224), 256 + 191, 224, 255);
        pair(plain(63, 224), 256 + 192, 256 + 224, 256 + 255);
    }

    private void below() {
        t.says("h(x) is 1 if x / 32 is below R, else 0 (cut; x of 8 bits).");
        // R is 5 of B 200: T 159 and 160 would be on its two sides; T can be 192 to 255 or 0 to 7.
        pair(plain(7, 200), 200, 200, 256 + 7);
        pair(plain(8, 200), 200, 200, 200);
        pair(plain(63, 200), 200, 200, 255);
        pair(plain(7, 200), 160, 200, 263);
        pair(plain(7, 200), 256 + 159, 200, 263);
        pair(plain(7, 200), 256 + 160, 456, 519);
        // R is 4 of B 160 with IE, E 0: T is 224 (its 256) or, being below B's six, 0 (the next 256).
        pair(scaled(0, 32, 160), 160, 160, 224);
        pair(scaled(0, 24, 160), 160, 160, 256 + 24);
        pair(scaled(0, 40, 160), 160, 160, 232);
        // x / 32 is as great as R: not below.
        pair(plain(5, 64), 32 + 512, 512 + 64, 512 + 69);
        pair(plain(5, 64), 63 + 512, 512 + 64, 512 + 69);
    }

    private void wraps() {
        t.says("BASE is ((a / 2^(E + 8)) + h(B) - h(m)) 2^(E + 8) + B 2^E, mod 2^32; TOP likewise by T, mod 2^33;");
        // Below 0: the 256 before the first are the last ones.
        pair(plain(5, 64), 32, 64, 69);
        pair(plain(5, 64), 31, TWO_32 - 192, TWO_32 - 187);
        // Beyond 2^32: the 256 behind the last are the first ones.
        pair(plain(5, 0), TWO_32 - 33, TWO_32 - 256, TWO_32 - 251);
        pair(plain(5, 0), TWO_32 - 32, 0, 5);
        // Up to 2^32 itself, and one less.
        pair(plain(0, 255), TWO_32 - 1, TWO_32 - 1, TWO_32);
        pair(plain(63, 254), TWO_32 - 2, TWO_32 - 2, TWO_32 - 1);
        // E 26: 120 of 2^26 are below 2^33, 128 are 2^33.
        pair(scaled(26, 56, 56), 0, 56L << 26, 120L << 26);
        pair(scaled(26, 0, 56), 0, 56L << 26, 0);
        pair(scaled(26, 8, 56), 0, 56L << 26, 8L << 26);
        // E 26: B 56 is below 2^32, B 64 is 2^32.
        pair(scaled(26, 8, 64), 0, 0, TWO_29);
    }

    private void turned() {
        t.says("if E is below 25, and bits 31, 32 of TOP less bit 31 of BASE (mod 4) are above 1, bit 32 of TOP is"
            + " turned.");
        // E 24, R 1: at 0 TOP is 2^32 + 2^31, which is 3, and BASE 2^30, which is 0.
        pair(scaled(24, 0, 64), 0, TWO_30, TWO_31);
        // E 24, R 3: TOP is 7 2^30, which is 3, and BASE 2^31, which is 1: the difference is 2.
        pair(scaled(24, 0, 128), 0, TWO_31, 3 * TWO_30);
        // TOP is 7, which is 0, and BASE 2^32 - 56, which is 1: the difference is 3.
        pair(plain(7, 200), 159, TWO_32 - 56, TWO_32 + 7);
        // The difference is 1: 2^31 (1) and 2^30 (0), 2^32 (2) and 3 2^30 (1).
        pair(scaled(24, 0, 64), TWO_30, TWO_30, TWO_31);
        pair(scaled(24, 0, 192), -1, 3 * TWO_30, TWO_32);
        // The difference is 0.
        pair(scaled(23, 0, 64), TWO_29, TWO_29, TWO_30);
        // E 25 and E 26: the difference is 3, and nothing is turned.
        pair(scaled(25, 0, 128), 0, 0, 3 * TWO_31);
        pair(scaled(26, 32, 0), 0, 0, 3 * TWO_31);
        pair(scaled(25, 8, 192), 0, TWO_31, 8L << 25);
        // E 25: the difference is 2, and nothing is turned.
        pair(scaled(25, 0, 8), 0, 8L << 25, TWO_32);
    }

    private static void inBounds(Tests t) {
        t.says("x with n bytes is in BOUNDS if BASE is not above x, x + n not above TOP.");
        for (int n = 1; n <= 4; n *= 2) {
            int f = n == 1 ? 0 : n == 2 ? 1 : 2;
            reach(t, 8192, 64, Code.load(f, 5, 1, -1), -1);
            reach(t, 8192, 64, Code.load(f, 5, 1, 0), 0);
            reach(t, 8192, 64, Code.load(f, 5, 1, 64 - n), 0);
            reach(t, 8192, 64, Code.load(f, 5, 1, 65 - n), -1);
            reach(t, 8192, n, Code.load(f, 5, 1, 0), 0);
            reach(t, 8192, n - 1, Code.load(f, 5, 1, 0), -1);
            // Up to 2^32 it is in BOUNDS (and beyond memory); from there it does not go on at 0.
            reach(t, -4, 4, Code.load(f, 5, 1, 4 - n), 5);
            reach(t, -4, 4, Code.load(f, 5, 1, 4), -1);
            reach(t, -4, 4, Code.load(f, 5, 1, 5 - n), -1);
        }
    }

    /** A cause of -1 stands for not being in BOUNDS. */
    private static void reach(Tests t, int base, int length, int code, int cause) {
        Bench b = new Bench(t, code).root(1, base, length, 4095).run(1);
        String what = Integer.toHexString(code) + " of " + length + " at " + base;
        if (cause == 0) {
            b.dueNoTrap(what, 4);
        } else {
            t.due(what + ": CAUSE", b.core.count(1), cause == -1 ? 28 : cause);
            t.due(what + ": BOUNDS", b.core.count(2) == 33 ? 1 : 0, cause == -1 ? 1 : 0);
        }
    }
}
