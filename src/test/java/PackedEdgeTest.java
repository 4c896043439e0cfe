/** The edges that Terms 2 names of PACKED, EXACT, MOVED and numbers, and promise 10 with them. */
public final class PackedEdgeTest {
    private static final long TWO_32 = 1L << 32;
    private static final int EXACT = 32768;
    private static final int IE = 16384;

    private final Tests t;
    private CheriCore core = new CheriCore();

    private PackedEdgeTest(Tests t) {
        this.t = t;
    }

    public static void main(String[] args) {
        Tests t = new Tests("Terms 2, edges of PACKED and MOVED");
        new PackedEdgeTest(t).exponents();
        new PackedEdgeTest(t).innerExponent();
        new PackedEdgeTest(t).without();
        new PackedEdgeTest(t).rounded();
        new PackedEdgeTest(t).apart();
        new PackedEdgeTest(t).fields();
        new PackedEdgeTest(t).exact();
        new PackedEdgeTest(t).toTheEnd();
        moved(t);
        movedKinds(t);
        numbers(t);
        t.end();
    }

    private void pack(long base, long length, int due) {
        t.due("pack(" + base + ", " + length + ")", core.pack((int) base, length), due);
    }

    private static int scaled(int e, int high, int low) {
        return IE | (high | e / 8) << 8 | low | e % 8;
    }

    private void exponents() {
        t.says("e is how many bits (t - b) / 128 has;");
        for (int e = 1; e < 27; e++) {
            // 15 units of e - 1 have one bit less, 64 of 2^e (eight units of e) have e.
            pack(0, 120L << e - 1, EXACT | scaled(e - 1, 120 % 64, 0));
            pack(0, (128L << e - 1) - 1, scaled(e, 0, 0));
            pack(0, 64L << e, EXACT | scaled(e, 0, 0));
            core = new CheriCore();
        }
    }

    private void innerExponent() {
        t.says("IE is 1 if e is above 0 or t - b above 63.");
        pack(0, 62, EXACT | 62 << 8);
        pack(0, 63, EXACT | 63 << 8);
        pack(0, 64, EXACT | IE);
        pack(0, 65, IE | 8 << 8);
        pack(9, 63, EXACT | 8 << 8 | 9);
        pack(8, 64, EXACT | IE | 8 << 8 | 8);
        pack(0, 127, IE | 1);
        pack(0, 128, EXACT | IE | 1);
    }

    private void without() {
        t.says("Without IE: B is b mod 256, T is t mod 64.");
        pack(0, 0, EXACT);
        pack(255, 0, EXACT | 63 << 8 | 255);
        pack(256, 0, EXACT);
        pack(257, 0, EXACT | 1 << 8 | 1);
        pack(254, 1, EXACT | 63 << 8 | 254);
        pack(255, 1, EXACT | 255);
        pack(255, 2, EXACT | 1 << 8 | 255);
        pack(-1, 0, EXACT | 63 << 8 | 255);
    }

    private void rounded() {
        t.says("With it: b is rounded down, t up, to multiples of 2^(e + 3);");
        pack(7, 65, IE | 8 << 8);
        pack(8, 64, EXACT | IE | 8 << 8 | 8);
        pack(9, 64, IE | 16 << 8 | 8);
        pack(8, 65, IE | 16 << 8 | 8);
        pack(8, 72, EXACT | IE | 16 << 8 | 8);
        pack(8, 73, IE | 24 << 8 | 8);
        // e is 3, so these are multiples of 64: of 8 as it stands in META.
        pack(64, 512, EXACT | scaled(3, 8, 8));
        pack(63, 513, scaled(3, 8, 0));
        pack(65, 512, scaled(3, 16, 8));
        pack(127, 512, scaled(3, 16, 8));
        pack(128, 512, EXACT | scaled(3, 16, 16));
    }

    private void apart() {
        t.says("if these are 16 or more such apart, e is one more, and they are rounded (from b, t) anew;");
        // 15 apart, 16 and (from both sides) 17.
        pack(0, 120, EXACT | IE | 56 << 8);
        pack(1, 119, IE | 56 << 8);
        pack(0, 121, scaled(1, 0, 0));
        pack(1, 120, scaled(1, 0, 0));
        pack(7, 122, scaled(1, 72 % 64, 0));
        pack(8, 120, EXACT | IE | 8);
        pack(8, 121, scaled(1, 72 % 64, 0));
        // From 24 to 152 are 16 of 8; anew: from 16 to 160.
        pack(31, 120, scaled(1, 80 % 64, 8));
        // From 8 to 129 are 16 of 8 (to 136); rounded from 8, not from 0.
        pack(24, 121, scaled(1, 80 % 64, 8));
        for (int e = 1; e < 25; e++) {
            pack(8L << e, 120L << e, EXACT | scaled(e, 0, 8));
            pack(8L << e, (120L << e) + 1, scaled(e + 1, 8, 0));
            pack((8L << e) - 1, 120L << e, scaled(e + 1, 0, 0));
            core = new CheriCore();
        }
    }

    private void fields() {
        t.says("B is bits e to e + 7 of b, T bits e to e + 5 of t, with e / 8 and e mod 8 as lowest three bits.");
        // e is 7 and 8, 15 and 16, 23 and 24: where e / 8 is one more.
        for (int e = 7; e < 24; e += 8) {
            pack(0, 64L << e, EXACT | IE | e / 8 << 8 | 7);
            pack(0, 64L << e + 1, EXACT | IE | e / 8 + 1 << 8);
            pack(248L << e, 64L << e, EXACT | IE | (312 % 64 | e / 8) << 8 | 248 | 7);
            pack(256L << e, 64L << e, e < 23 ? EXACT | IE | e / 8 << 8 | 7 : EXACT | IE | 2 << 8 | 7);
        }
        pack(8L << 9, 112L << 9, EXACT | IE | (120 % 64 | 1) << 8 | 8 | 1);
    }

    private void exact() {
        t.says("EXACT: nothing was rounded.");
        pack(16, 128, EXACT | scaled(1, 72 % 64, 8));
        pack(17, 127, scaled(1, 72 % 64, 8));
        pack(16, 127, scaled(1, 72 % 64, 8));
        pack(15, 129, scaled(1, 72 % 64, 0));
        pack(16, 129, scaled(1, 80 % 64, 8));
        pack(17, 63, EXACT | 80 % 64 << 8 | 17);
        pack(17, 64, IE | 88 % 64 << 8 | 16);
    }

    private void toTheEnd() {
        t.says("PACKED are a base b and a top t (b to 2^32):");
        pack(-1, 1, EXACT | 255);
        pack(-63, 63, EXACT | 193);
        pack(-64, 64, EXACT | IE | 192);
        pack(-65, 65, IE | 184);
        pack(0, TWO_32 - 1, scaled(26, 0, 0));
        pack(0, TWO_32, EXACT | scaled(26, 0, 0));
        pack(1, TWO_32 - 1, scaled(26, 0, 0));
        // 15 of 2^28 are the most that e 25 has.
        pack(1L << 28, 15L << 28, EXACT | scaled(25, 0, 8));
        pack((1L << 28) - 1, (15L << 28) + 1, scaled(26, 0, 0));
        pack(1L << 29, TWO_32 - (1L << 29), EXACT | scaled(25, 0, 16));
        pack(TWO_32 / 2, TWO_32 / 2, EXACT | scaled(25, 0, 64));
    }

    /** Register 1 is moved by register 2. */
    private static void by(Tests t, int base, int length, int by, boolean tag, int dueBase, int dueLength) {
        Bench b = new Bench(t, Code.cap(17, 5, 1, 2)).root(1, base, length, 4095).number(2, by).run(1);
        b.dueCap(length + " at " + base + " by " + by, 5, tag, base + by, dueBase, dueLength);
    }

    private static void moved(Tests t) {
        t.says("A CAPABILITY c MOVED to x: ADDRESS x, no TAG if c is not open or its BOUNDS would be others.");
        // 16 at 8192: B is 0, so R is 7: from 32 before to 223 behind.
        by(t, 8192, 16, 223, true, 8192, 16);
        by(t, 8192, 16, 224, false, 8448, 16);
        by(t, 8192, 16, -32, true, 8192, 16);
        by(t, 8192, 16, -33, false, 7936, 16);
        // 256 at 8192: the same with units of 4.
        by(t, 8192, 256, 895, true, 8192, 256);
        by(t, 8192, 256, 896, false, 9216, 256);
        by(t, 8192, 256, -128, true, 8192, 256);
        by(t, 8192, 256, -129, false, 7168, 256);
        // 16 at 8256: B is 64, so R is 1: from 32 before to 223 behind.
        by(t, 8256, 16, -32, true, 8256, 16);
        by(t, 8256, 16, -33, false, 8000, 16);
        by(t, 8256, 16, 223, true, 8256, 16);
        by(t, 8256, 16, 224, false, 8512, 16);
        // Round the end of the space, both ways.
        by(t, -16, 16, 16, true, -16, 16);
        by(t, -16, 16, 16 + 191, true, -16, 16);
        by(t, -16, 16, 16 + 192, false, 240, 16);
        by(t, 0, 16, -32, true, 0, 16);
        by(t, 0, 16, -33, false, -256, 16);
        by(t, 8192, 16, 0, true, 8192, 16);
    }

    private static void movedKinds(Tests t) {
        t.says("no TAG if c is not open");
        for (int by = 0; by < 2; by++) {
            int go = Code.incOffset(5, 1, by);
            Bench gate = new Bench(t, Code.inspect(17, 1, 1), go).root(1, 8192, 16, 4095).run(2);
            gate.dueCap("a gate by " + by, 5, false, 8192 + by, 8192, 16).dueKind("a gate", 5, 4095, 14);
            Bench sealed = new Bench(t, Code.cap(11, 1, 1, 3), go).root(1, 8192, 16, 4095).root(3, 11, 1, 4095).run(2);
            sealed.dueCap("sealed, by " + by, 5, false, 8192 + by, 8192, 16).dueKind("sealed", 5, 4095, 11);
            Bench none = new Bench(t, Code.inspect(11, 1, 1), go).root(1, 8192, 16, 4095).run(2);
            none.dueCap("without TAG, by " + by, 5, false, 8192 + by, 8192, 16).dueKind("open", 5, 4095, 15);
        }
        // What has lost its TAG does not get it back where its BOUNDS are as they were.
        Bench back = new Bench(t, Code.incOffset(5, 1, 224), Code.incOffset(5, 5, -224)).root(1, 8192, 16, 4095).run(2);
        back.dueCap("there and back", 5, false, 8192, 8192, 16);
    }

    private static void numbers(Tests t) {
        t.says("A number n as a CAPABILITY is NULL MOVED to n. Numbers of registers are their ADDRESSES.");
        for (int n : new int[] {0, 1, -1, Integer.MAX_VALUE, Integer.MIN_VALUE}) {
            Bench b = new Bench(t, Code.op(0, 0, 5, 2, 0)).number(2, n).run(1).dueNumber("n", 5, n);
            b.dueCap("n", 5, false, n, 0, -1).dueKind("n", 5, 0, 15);
        }
        Bench c = new Bench(t, Code.addi(5, 1, -1), Code.op(0, 0, 1, 1, 0)).root(1, 8192, 16, 4095).run(2);
        c.dueNumber("the number of a CAPABILITY", 5, 8191).dueNumber("over itself", 1, 8192);
    }
}
