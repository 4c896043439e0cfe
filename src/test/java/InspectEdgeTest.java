/** The edges that Terms 4 names of number 127: what is looked at, CRRL, CRAM, CMove, CClearTag. */
public final class InspectEdgeTest {
    private static final int BASE = 8192;
    private static final int MIN = Integer.MIN_VALUE;

    public static void main(String[] args) {
        Tests t = new Tests("Terms 4, edges of 127");
        perms(t);
        types(t);
        lengths(t);
        bases(t);
        tags(t);
        offsets(t);
        metas(t);
        roundedLengths(t);
        masks(t);
        copies(t);
        others(t);
        t.end();
    }

    private static Bench put(Tests t, int address, int meta, int what) {
        Bench b = new Bench(t, Code.inspect(what, 7, 5));
        b.core.put(5, address, meta);
        return b.run(1).dueNoTrap("127, " + what, 4);
    }

    private static Bench root(Tests t, int base, int length, int perms, int what) {
        return new Bench(t, Code.inspect(what, 7, 5)).root(5, base, length, perms).run(1).dueNoTrap("127, " + what, 4);
    }

    private static void perms(Tests t) {
        t.says("127: by rs2: 0 PERMS,");
        for (int perms : new int[] {0, 1, 2048, 4094, 4095}) {
            root(t, BASE, 64, perms, 0).dueNumber("PERMS", 7, perms);
            put(t, 0, perms << 20, 0).dueNumber("PERMS", 7, perms);
        }
        put(t, 0, 0xFFFFF, 0).dueNumber("no PERMS", 7, 0);
    }

    private static void types(Tests t) {
        t.says("1 TYPE (-1 open, -2 a gate),");
        put(t, 0, (11 ^ 15) << 16, 1).dueNumber("11", 7, 11);
        put(t, 0, (0 ^ 15) << 16, 1).dueNumber("0", 7, 0);
        put(t, 0, (14 ^ 15) << 16, 1).dueNumber("a gate", 7, -2);
        put(t, 0, (15 ^ 15) << 16, 1).dueNumber("open", 7, -1);
        t.says("5 1 if not open,");
        put(t, 0, (0 ^ 15) << 16, 5).dueNumber("0", 7, 1);
        put(t, 0, (11 ^ 15) << 16, 5).dueNumber("11", 7, 1);
        put(t, 0, (14 ^ 15) << 16, 5).dueNumber("a gate", 7, 1);
        put(t, 0, (15 ^ 15) << 16, 5).dueNumber("open", 7, 0);
    }

    /** META as it is told of IE and E, with T and B. */
    private static int scaled(int e, int high, int low) {
        return (15 << 16 | 1 << 14 | (high | e / 8) << 8 | low | e % 8) ^ Bench.NULL_META;
    }

    private static void lengths(Tests t) {
        t.says("3 TOP less BASE (at most 2^32 - 1),");
        length(t, 0, scaled(26, 0, 0), -1);
        length(t, 0, scaled(26, 8, 0), -1);
        length(t, 0, scaled(26, 8, 8), -1);
        // The longest that are shorter than 2^32: 120 of 2^25, 15 of 2^28.
        length(t, 0, scaled(25, 120 % 64, 0), 15 << 28);
        length(t, 0, scaled(25, 112 % 64, 0), 14 << 28);
        length(t, 0, scaled(25, 0, 0), MIN);
        length(t, BASE, (15 << 16) ^ Bench.NULL_META, 0);
        length(t, BASE, (15 << 16 | 1 << 8) ^ Bench.NULL_META, 1);
        root(t, BASE, 0, 1, 3).dueNumber("nothing", 7, 0);
        root(t, 0, Integer.MAX_VALUE, 1, 3).dueNumber("2^31", 7, MIN);
    }

    /** The instruction and told() tell the same. */
    private static void length(Tests t, int address, int meta, int due) {
        Bench b = put(t, address, meta, 3).dueNumber("TOP less BASE of " + meta, 7, due);
        t.due("the same, told", b.core.told(5, 4), due);
    }

    private static void bases(Tests t) {
        t.says("2 BASE,");
        root(t, BASE, 64, 1, 2).dueNumber("BASE", 7, BASE);
        root(t, BASE + 1, 64, 1, 2).dueNumber("rounded down", 7, BASE);
        root(t, -1, 1, 1, 2).dueNumber("the last one", 7, -1);
        root(t, MIN, 64, 1, 2).dueNumber("2^31", 7, MIN);
        put(t, -1, 0, 2).dueNumber("of a number", 7, 0);
    }

    private static void tags(Tests t) {
        t.says("4 TAG,");
        root(t, BASE, 64, 1, 4).dueNumber("TAG", 7, 1);
        put(t, BASE, -1, 4).dueNumber("no TAG", 7, 0);
        new Bench(t, Code.inspect(4, 7, 0)).run(1).dueNumber("NULL", 7, 0);
    }

    private static void offsets(Tests t) {
        t.says("6 ADDRESS less BASE,");
        root(t, BASE, 64, 1, 6).dueNumber("at BASE", 7, 0);
        root(t, BASE + 7, 64, 1, 6).dueNumber("rounded down", 7, 7);
        put(t, -1, 0, 6).dueNumber("of a number", 7, -1);
        for (int by : new int[] {-32, -1, 64, 223}) {
            Bench b = new Bench(t, Code.incOffset(5, 5, by), Code.inspect(6, 7, 5), Code.inspect(15, 8, 5));
            b.root(5, BASE, 64, 1).run(3).dueNumber("by " + by, 7, by).dueNumber("ADDRESS", 8, BASE + by);
        }
        // From before 0 and over 2^32.
        Bench low = new Bench(t, Code.incOffset(5, 5, -4), Code.inspect(6, 7, 5)).root(5, 0, 64, 1).run(2);
        low.dueNumber("before 0", 7, -4);
        Bench high = new Bench(t, Code.incOffset(5, 5, 16), Code.inspect(6, 7, 5)).root(5, -16, 16, 1).run(2);
        high.dueNumber("over 2^32", 7, 16);
    }

    private static void metas(Tests t) {
        t.says("15 ADDRESS, 23 META as it is told;");
        for (int meta : new int[] {0, -1, 1000194, MIN, 1}) {
            put(t, 5, meta, 23).dueNumber("META", 7, meta);
            put(t, meta, 5, 15).dueNumber("ADDRESS", 7, meta);
        }
        new Bench(t, Code.inspect(23, 7, 0)).run(1).dueNumber("META of NULL", 7, 0);
    }

    private static final long[][] ROUNDED = {{0, 0, -1}, {1, 1, -1}, {63, 63, -1}, {64, 64, -8}, {65, 72, -8},
        {72, 72, -8}, {119, 120, -8}, {120, 120, -8}, {121, 128, -16}, {127, 128, -16}, {128, 128, -16},
        {129, 144, -16}, {240, 240, -16}, {241, 256, -32}, {4095, 4096, -512}, {4096, 4096, -512}, {4097, 4608, -512},
        {0x7FFFFFFFL, 0x80000000L, -(1L << 28)}, {0x80000000L, 0x80000000L, -(1L << 28)},
        {0x80000001L, 0x90000000L, -(1L << 28)}, {0xF0000000L, 0xF0000000L, -(1L << 28)},
        {0xF0000001L, 0, -(1L << 29)}, {0xFFFFFFFFL, 0, -(1L << 29)}};

    private static void roundedLengths(Tests t) {
        t.says("8 CRRL: the length that 0 to c's number has PACKED (mod 2^32);");
        for (long[] r : ROUNDED) {
            put(t, (int) r[0], 0, 8).dueNumber("CRRL of " + r[0], 7, (int) r[1]);
        }
        root(t, BASE + 1, 8, 1, 8).dueNumber("CRRL of a CAPABILITY", 7, 8192 + 1024);
    }

    private static void masks(Tests t) {
        t.says("9 CRAM: -1, or, if that has IE, -2^(e + 3);");
        for (long[] r : ROUNDED) {
            put(t, (int) r[0], 0, 9).dueNumber("CRAM of " + r[0], 7, (int) r[2]);
        }
        root(t, BASE + 1, 8, 1, 9).dueNumber("CRAM of a CAPABILITY", 7, -1024);
    }

    private static void copies(Tests t) {
        t.says("10 CMove; 11 CClearTag;");
        for (int what = 10; what < 12; what++) {
            boolean tag = what == 10;
            root(t, BASE, 64, 0x8A5, what).dueCap("open", 7, tag, BASE, BASE, 64).dueKind("open", 7, 0x8A5, 15);
            int copy = Code.inspect(what, 7, 5);
            Bench gate = new Bench(t, Code.inspect(17, 5, 5), copy).root(5, BASE, 64, 0x8A7).run(2);
            gate.dueCap("a gate", 7, tag, BASE, BASE, 64).dueKind("a gate", 7, 0x8A7, 14);
            Bench sealed = new Bench(t, Code.cap(11, 5, 5, 3), copy).root(5, BASE, 64, 0x8A7).root(3, 11, 1, 4095).run(2);
            sealed.dueCap("sealed", 7, tag, BASE, BASE, 64).dueKind("sealed", 7, 0x8A7, 11);
            Bench none = put(t, 3, -1, what);
            t.due("no TAG", none.core.told(7, 0), 0);
            t.due("its META", none.core.told(7, 2), -1);
            // Out of its BOUNDS, and over itself.
            Bench out = new Bench(t, Code.incOffset(5, 5, -8), Code.inspect(what, 5, 5)).root(5, BASE, 64, 1).run(2);
            out.dueCap("out of its BOUNDS", 5, tag, BASE - 8, BASE, 64);
        }
    }

    private static void others(Tests t) {
        t.says("Others of 0x5B: TRAP 2.");
        for (int what : new int[] {7, 12, 13, 14, 16, 18, 19, 20, 21, 22, 24, 25, 26, 27, 28, 29, 30, 31}) {
            int code = Code.inspect(what, 7, 5);
            Bench b = new Bench(t, code).root(5, BASE, 64, 4095).number(7, 77).run(1).dueTrap("127, " + what, 2, code, 0);
            b.dueNumber("nothing done", 7, 77);
        }
    }
}
