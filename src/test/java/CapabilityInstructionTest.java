/** Promise 5: the instructions of opcode 0x5B that move, bound and look, without sealing. */
public final class CapabilityInstructionTest {
    private static final int BASE = 8192;
    private static final int GATE_1 = Code.inspect(17, 1, 1);

    public static void main(String[] args) {
        Tests t = new Tests("promise 5: opcode 0x5B");
        moves(t);
        bounds(t);
        boundsAtTheEnd(t);
        perms(t);
        building(t);
        subsets(t);
        inspections(t);
        representable(t);
        others(t);
        t.end();
    }

    /** Register 1 is a root of 256 bytes at 8192, register 2 a number; the code has run to its end. */
    private static Bench bench(Tests t, int perms, int number, int... code) {
        return new Bench(t, code).root(1, BASE, 256, perms).number(2, number).run(code.length)
            .dueNoTrap("no trap", 4 * code.length);
    }

    /** 256 bytes at 8192 can be told from 128 bytes before them to 896 behind their first. */
    private static void moves(Tests t) {
        bench(t, 5, 0, Code.incOffset(4, 1, 895)).dueCap("up", 4, true, BASE + 895, BASE, 256).dueKind("up", 4, 5, 15);
        bench(t, 5, 0, Code.incOffset(4, 1, 896)).dueCap("too far up", 4, false, BASE + 896, 9216, 256);
        bench(t, 5, 0, Code.incOffset(4, 1, -128)).dueCap("down", 4, true, BASE - 128, BASE, 256);
        bench(t, 5, 0, Code.incOffset(4, 1, -129)).dueCap("too far down", 4, false, BASE - 129, 7168, 256);
        bench(t, 5, 0, Code.incOffset(4, 1, 896), Code.incOffset(4, 4, -896)).dueCap("no way back", 4, false, BASE, BASE, 256);
        bench(t, 5, 0, GATE_1, Code.incOffset(4, 1, 0)).dueCap("a gate", 4, false, BASE, BASE, 256);
        bench(t, 5, 0, Code.incOffset(0, 1, 4), Code.incOffset(1, 1, 4)).dueCap("itself", 1, true, BASE + 4, BASE, 256);
        bench(t, 5, 0, Code.incOffset(4, 2, -1)).dueNumber("a number", 4, -1);
        bench(t, 5, 8, Code.incOffset(4, 1, 16), Code.cap(15, 5, 4, 2)).dueCap("offset", 5, true, BASE + 8, BASE, 256);
        bench(t, 5, -129, Code.cap(15, 5, 1, 2)).dueCap("offset down", 5, false, BASE - 129, 7168, 256);
        bench(t, 5, 8300, Code.cap(16, 5, 1, 2)).dueCap("address", 5, true, 8300, BASE, 256);
        bench(t, 5, 0, Code.cap(16, 5, 1, 2)).dueCap("address 0", 5, false, 0, 0, 256);
        bench(t, 5, -100, Code.cap(17, 5, 1, 2)).dueCap("by a number", 5, true, BASE - 100, BASE, 256);
        bench(t, 5, 5, Code.cap(20, 5, 1, 2)).dueNumber("CSub", 5, BASE - 5);
        bench(t, 5, BASE, Code.cap(20, 5, 2, 1)).dueNumber("CSub to 0", 5, 0);
        Bench high = bench(t, 5, 0x12345678, Code.cap(22, 5, 1, 2));
        t.due("CSetHigh: META", high.core.told(5, 2), 0x12345678);
        t.due("CSetHigh: ADDRESS", high.core.told(5, 1), BASE);
        t.due("CSetHigh: TAG", high.core.told(5, 0), 0);
    }

    private static void bounds(Tests t) {
        bench(t, 5, 0, Code.setBounds(4, 1, 100)).dueCap("rounded", 4, true, BASE, BASE, 104).dueKind("rounded", 4, 5, 15);
        bench(t, 5, 100, Code.cap(8, 4, 1, 2)).dueCap("rounded, by a number", 4, true, BASE, BASE, 104);
        bench(t, 5, 100, Code.cap(9, 4, 1, 2)).dueCap("not exact", 4, false, BASE, BASE, 104);
        bench(t, 5, 104, Code.cap(9, 4, 1, 2)).dueCap("exact", 4, true, BASE, BASE, 104);
        bench(t, 5, 256, Code.cap(9, 4, 1, 2)).dueCap("all", 4, true, BASE, BASE, 256);
        bench(t, 5, 0, Code.setBounds(4, 1, 257)).dueCap("more", 4, false, BASE, BASE, 288);
        bench(t, 5, 0, Code.setBounds(4, 1, 0)).dueCap("nothing", 4, true, BASE, BASE, 0);
        bench(t, 5, 0, Code.setBounds(4, 1, 4095)).dueCap("4095, no sign", 4, false, BASE, BASE, 4096);
        int end = Code.incOffset(4, 1, 256);
        bench(t, 5, 0, end, Code.setBounds(4, 4, 0)).dueCap("nothing at the end", 4, true, 8448, 8448, 0);
        bench(t, 5, 0, end, Code.setBounds(4, 4, 1)).dueCap("a byte at the end", 4, false, 8448, 8448, 1);
        int before = Code.incOffset(4, 1, -8);
        bench(t, 5, 0, before, Code.setBounds(4, 4, 16)).dueCap("before", 4, false, 8184, 8184, 16);
        bench(t, 5, 0, before, Code.setBounds(4, 4, 0)).dueCap("nothing before", 4, false, 8184, 8184, 0);
        bench(t, 7, 0, GATE_1, Code.setBounds(4, 1, 8)).dueCap("a gate", 4, false, BASE, BASE, 8).dueKind("a gate", 4, 7, 14);
        // Without IE, rounding and bit 15 of META are left as they are.
        Bench bit = new Bench(t, Code.setBounds(4, 5, 24));
        bit.core.put(5, 4000, 0x8000);
        bit.run(1).dueCap("no TAG, bit 15", 4, false, 4000, 4000, 24);
        t.due("bit 15", bit.core.told(4, 2) & 0x8000, 0x8000);
        t.due("fifteen bits", (bit.core.told(4, 2) ^ Bench.NULL_META) & 0x7FFF, bit.core.pack(4000, 24) & 0x7FFF);
    }

    private static void boundsAtTheEnd(Tests t) {
        for (int number = 8; number < 10; number++) {
            int code = Code.cap(number, 5, 4, 2);
            Bench just = new Bench(t, code).root(4, -16, 16, 5).number(2, 16).run(1);
            just.dueCap("up to the end", 5, true, -16, -16, 16);
            Bench one = new Bench(t, code).root(4, -16, 16, 5).number(2, 17).run(1);
            one.dueCap("one beyond", 5, false, -16, -16, 16);
            Bench far = new Bench(t, code).root(4, -16, 16, 5).number(2, -1).run(1);
            far.dueCap("far beyond", 5, false, -16, -16, 16);
            Bench half = new Bench(t, code).root(4, Integer.MIN_VALUE, Integer.MAX_VALUE, 5).number(2, Integer.MIN_VALUE);
            half.run(1).dueCap("the upper half", 5, true, Integer.MIN_VALUE, Integer.MIN_VALUE, Integer.MIN_VALUE);
        }
    }

    private static void perms(Tests t) {
        bench(t, 0x9A5, 0x8FF, Code.cap(13, 4, 1, 2)).dueKind("some", 4, 0x8A5, 15).dueCap("some", 4, true, BASE, BASE, 256);
        bench(t, 0x9A5, -1, Code.cap(13, 4, 1, 2)).dueKind("all", 4, 0x9A5, 15);
        bench(t, 0x9A5, 0xFFFFF000, Code.cap(13, 4, 1, 2)).dueKind("none", 4, 0, 15).dueCap("none", 4, true, BASE, BASE, 256);
        bench(t, 7, -1, GATE_1, Code.cap(13, 4, 1, 2)).dueKind("a gate", 4, 7, 14).dueCap("a gate", 4, false, BASE, BASE, 256);
        bench(t, 7, 3, Code.cap(13, 4, 2, 2)).dueNumber("a number", 4, 3);
    }

    private static void build(Tests t, String what, boolean tag, int perms, int... code) {
        int[] all = new int[code.length + 2];
        System.arraycopy(code, 0, all, 0, code.length);
        all[code.length] = Code.inspect(11, 5, 5);
        all[code.length + 1] = Code.cap(29, 6, 1, 5);
        Bench b = new Bench(t, all).root(1, BASE, 256, 0x0F7).root(5, BASE + 16, 32, perms);
        b.root(7, 0, 16, 4095).number(2, 0).run(all.length);
        b.dueNoTrap(what, 4 * all.length);
        t.due(what + ": TAG", b.core.told(6, 0), tag ? 1 : 0);
        t.due(what + ": ADDRESS", b.core.told(6, 1), b.core.told(5, 1));
        t.due(what + ": PERMS", b.core.told(6, 5), b.core.told(5, 5));
        t.due(what + ": TYPE", b.core.told(6, 6), b.core.told(5, 6) == 14 ? 14 : 15);
        t.due(what + ": bounds", b.core.told(6, 2) & 0xFFFF, b.core.told(5, 2) & 0xFFFF);
        t.due(what + ": grown", b.core.grown(), 0);
    }

    private static void building(Tests t) {
        build(t, "a part", true, 0x0A7);
        build(t, "all PERMS", true, 0x0F7);
        build(t, "a PERM more", false, 0x1F7);
        build(t, "PERMS of which one is missing", false, 0x008);
        build(t, "a gate", true, 0x0A7, Code.inspect(17, 5, 5));
        build(t, "what was sealed", true, 0x0A7, Code.cap(11, 5, 5, 7));
        build(t, "a sealed authority", false, 0x0A7, Code.cap(11, 1, 1, 7));
        build(t, "a gate as authority", false, 0x0A7, Code.inspect(17, 1, 1));
        build(t, "an authority without TAG", false, 0x0A7, Code.inspect(11, 1, 1));
        build(t, "a part that begins before", false, 0x0A7, Code.incOffset(1, 1, 17), Code.setBounds(1, 1, 40));
        build(t, "a part that ends behind", false, 0x0A7, Code.incOffset(1, 1, 16), Code.setBounds(1, 1, 31));
        build(t, "just that part", true, 0x0A7, Code.incOffset(1, 1, 16), Code.setBounds(1, 1, 32));
        build(t, "nothing at the end", true, 0x0A7, Code.incOffset(5, 5, 32), Code.setBounds(5, 5, 0));
        // BASE 2^29 and TOP 0: neither is outside, but they are not in order.
        Bench b = new Bench(t, Code.cap(29, 6, 1, 5)).root(1, 0, 16384, 4095);
        b.core.put(5, 0, 8);
        b.run(1);
        t.due("BASE above TOP", b.core.told(6, 3), 1 << 29);
        t.due("BASE above TOP: TAG", b.core.told(6, 0), 0);
    }

    private static void subset(Tests t, String what, int due, int... code) {
        int[] all = new int[code.length + 1];
        System.arraycopy(code, 0, all, 0, code.length);
        all[code.length] = Code.cap(32, 6, 1, 5);
        Bench b = new Bench(t, all).root(1, BASE, 256, 0x0F7).root(5, BASE + 16, 32, 0x0A7).number(2, 0x0A3);
        b.root(7, BASE - 8, 512, 1).run(all.length).dueNumber(what, 6, due);
    }

    private static void subsets(Tests t) {
        subset(t, "a part", 1);
        subset(t, "itself", 1, Code.inspect(10, 5, 1));
        subset(t, "the whole of a part", 0, Code.inspect(10, 4, 1), Code.inspect(10, 1, 5), Code.inspect(10, 5, 4));
        subset(t, "fewer PERMS", 1, Code.cap(13, 5, 5, 2));
        subset(t, "more PERMS", 0, Code.cap(13, 1, 1, 2));
        subset(t, "no TAG here", 0, Code.inspect(11, 1, 1));
        subset(t, "no TAG there", 0, Code.inspect(11, 5, 5));
        subset(t, "no TAG at all", 1, Code.inspect(11, 1, 1), Code.inspect(11, 5, 5));
        subset(t, "longer", 0, Code.inspect(10, 5, 7));
        subset(t, "a gate", 1, Code.inspect(17, 5, 5));
    }

    private static void inspections(Tests t) {
        Bench b = new Bench(t, Code.incOffset(1, 1, 24)).root(1, BASE, 256, 0x8A7).run(1);
        int[] whats = {0, 1, 2, 3, 4, 5, 6, 15};
        int[] dues = {0x8A7, -1, BASE, 256, 1, 0, 24, BASE + 24};
        for (int k = 0; k < whats.length; k++) {
            b.core.word(1 + k, Code.inspect(whats[k], 5, 1));
            b.run(1).dueNumber("inspection " + whats[k], 5, dues[k]);
        }
        b.core.word(9, Code.inspect(23, 5, 1));
        b.run(1).dueNumber("META", 5, b.core.told(1, 2));
        b.core.word(10, Code.inspect(10, 5, 1));
        b.run(1).dueCap("CMove", 5, true, BASE + 24, BASE, 256).dueKind("CMove", 5, 0x8A7, 15);
        b.core.word(11, Code.inspect(11, 5, 5));
        b.run(1).dueCap("CClearTag", 5, false, BASE + 24, BASE, 256).dueKind("CClearTag", 5, 0x8A7, 15);
        for (int type = 0; type < 16; type++) {
            Bench k = new Bench(t, Code.inspect(1, 6, 5), Code.inspect(5, 7, 5), Code.inspect(4, 8, 5));
            k.core.put(5, 0, (type ^ 15) << 16);
            k.run(3).dueNumber("TYPE", 6, type == 15 ? -1 : type == 14 ? -2 : type);
            k.dueNumber("not open", 7, type == 15 ? 0 : 1).dueNumber("no TAG", 8, 0);
        }
        new Bench(t, Code.inspect(3, 6, 0), Code.inspect(6, 7, 2)).number(2, -3).run(2)
            .dueNumber("length of NULL", 6, -1).dueNumber("offset of a number", 7, -3);
        bench(t, 5, 0, GATE_1).dueKind("no gate without RUN", 1, 5, 14).dueCap("no gate", 1, false, BASE, BASE, 256);
        bench(t, 2, 0, GATE_1).dueKind("a gate", 1, 2, 14).dueCap("a gate", 1, true, BASE, BASE, 256);
        bench(t, 2, 0, GATE_1, GATE_1).dueKind("a gate of a gate", 1, 2, 14).dueCap("none", 1, false, BASE, BASE, 256);
    }

    private static void round(Tests t, int n, int length, int mask) {
        new Bench(t, Code.inspect(8, 5, 2), Code.inspect(9, 6, 2)).number(2, n).run(2)
            .dueNumber("CRRL of " + n, 5, length).dueNumber("CRAM of " + n, 6, mask);
    }

    private static void representable(Tests t) {
        round(t, 0, 0, -1);
        round(t, 63, 63, -1);
        round(t, 64, 64, -8);
        round(t, 65, 72, -8);
        round(t, 120, 120, -8);
        round(t, 121, 128, -16);
        round(t, 128, 128, -16);
        round(t, 4095, 4096, -512);
        round(t, Integer.MIN_VALUE, Integer.MIN_VALUE, -(1 << 28));
        round(t, -1, 0, -(1 << 29));
        round(t, -(1 << 28), -(1 << 28), -(1 << 28));
    }

    private static void others(Tests t) {
        boolean[] known = new boolean[128];
        for (int number : new int[] {1, 8, 9, 11, 12, 13, 15, 16, 17, 20, 22, 29, 32, 126, 127}) {
            known[number] = true;
        }
        for (int number = 0; number < 128; number++) {
            if (!known[number]) {
                illegal(t, Code.cap(number, 5, 1, 2));
            }
        }
        boolean[] looks = new boolean[32];
        for (int what : new int[] {0, 1, 2, 3, 4, 5, 6, 8, 9, 10, 11, 15, 17, 23}) {
            looks[what] = true;
        }
        for (int what = 0; what < 32; what++) {
            if (!looks[what]) {
                illegal(t, Code.inspect(what, 5, 1));
            }
        }
        for (int function = 3; function < 8; function++) {
            illegal(t, Code.cap(16, 5, 1, 2) | function << 12);
        }
    }

    private static void illegal(Tests t, int code) {
        Bench b = new Bench(t, code).root(1, BASE, 256, 4095).number(5, 77).run(1);
        b.dueTrap("no such instruction", 2, code, 0).dueNumber("nothing done", 5, 77);
    }
}
