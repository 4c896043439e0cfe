/** The edges that Terms 4 names of what moves, bounds, lessens and builds CAPABILITIES. */
public final class CapabilityEdgeTest {
    private static final int BASE = 8192;
    private static final int MIN = Integer.MIN_VALUE;
    private static final int MAX = Integer.MAX_VALUE;

    public static void main(String[] args) {
        Tests t = new Tests("Terms 4, edges of CAPABILITIES");
        functions(t);
        numbers(t);
        boundsWithin(t);
        boundsKinds(t);
        boundsBeyond(t);
        boundsExact(t);
        perms(t);
        offsets(t);
        addresses(t);
        differences(t);
        high(t);
        built(t);
        builtKinds(t);
        builtOrder(t);
        subsets(t);
        t.end();
    }

    /** Register 1 is a root, register 2 a number; one instruction. */
    private static Bench one(Tests t, int base, int length, int number, int code) {
        Bench b = new Bench(t, code).root(1, base, length, 4095).number(2, number).run(1);
        return b.dueNoTrap(Integer.toHexString(code), 4);
    }

    private static void functions(Tests t) {
        t.says("Function 1: CIncOffset by the immediate; 2: CSetBounds of it (0 to 4095);");
        one(t, BASE, 4096, 0, Code.incOffset(5, 1, 2047)).dueCap("by 2047", 5, true, BASE + 2047, BASE, 4096);
        one(t, BASE, 4096, 0, Code.incOffset(5, 1, -2048)).dueCap("by -2048", 5, true, BASE - 2048, BASE, 4096);
        one(t, BASE, 4096, 0, Code.incOffset(5, 1, 0)).dueCap("by 0", 5, true, BASE, BASE, 4096);
        one(t, BASE, 4096, 0, Code.incOffset(5, 1, -1)).dueCap("by -1", 5, true, BASE - 1, BASE, 4096);
        one(t, BASE, 4096, 0, Code.setBounds(5, 1, 0)).dueCap("of 0", 5, true, BASE, BASE, 0);
        one(t, BASE, 4096, 0, Code.setBounds(5, 1, 1)).dueCap("of 1", 5, true, BASE, BASE, 1);
        one(t, BASE, 4096, 0, Code.setBounds(5, 1, 2047)).dueCap("of 2047", 5, true, BASE, BASE, 2048);
        one(t, BASE, 4096, 0, Code.setBounds(5, 1, 2048)).dueCap("of 2048", 5, true, BASE, BASE, 2048);
        one(t, BASE, 4096, 0, Code.setBounds(5, 1, 4095)).dueCap("of 4095", 5, true, BASE, BASE, 4096);
    }

    private static void numbers(Tests t) {
        t.says("Others of 0x5B: TRAP 2.");
        boolean[] known = new boolean[128];
        for (int number : new int[] {1, 8, 9, 11, 12, 13, 15, 16, 17, 20, 22, 29, 32, 126, 127}) {
            known[number] = true;
        }
        for (int number = 0; number < 128; number++) {
            if (!known[number]) {
                none(t, Code.cap(number, 5, 1, 0));
            }
        }
        for (int function = 3; function < 8; function++) {
            none(t, Code.cap(16, 5, 1, 2) | function << 12);
            none(t, Code.inspect(10, 5, 1) | function << 12);
        }
    }

    private static void none(Tests t, int code) {
        Bench b = new Bench(t, code).root(1, BASE, 256, 4095).number(5, 77).run(1);
        b.dueTrap("no such instruction", 2, code, 0).dueNumber("nothing done", 5, 77);
    }

    /** 64 bytes at 8192; c stands 'at' behind their first, and takes 'many'. */
    private static void bounded(Tests t, int at, int many, boolean tag, int length) {
        for (int number = 8; number < 10; number++) {
            int[] code = {Code.incOffset(1, 1, at), Code.cap(number, 5, 1, 2)};
            Bench b = new Bench(t, code).root(1, BASE, 64, 0x8A5).number(2, many).run(2);
            String what = "CSetBounds " + number + " of " + many + " at " + at;
            b.dueNoTrap(what, 8).dueCap(what, 5, tag, BASE + at, BASE + at, length).dueKind(what, 5, 0x8A5, 15);
        }
        int[] code = {Code.incOffset(1, 1, at), Code.setBounds(5, 1, many)};
        Bench b = new Bench(t, code).root(1, BASE, 64, 0x8A5).run(2);
        b.dueCap("CSetBounds of " + many + " at " + at, 5, tag, BASE + at, BASE + at, length);
    }

    private static void boundsWithin(Tests t) {
        t.says("8 CSetBounds: c's BOUNDS are ADDRESS and d many from there, PACKED;");
        bounded(t, 0, 64, true, 64);
        bounded(t, 0, 63, true, 63);
        bounded(t, 0, 72, false, 72);
        bounded(t, 1, 63, true, 63);
        bounded(t, 2, 63, false, 63);
        bounded(t, 63, 1, true, 1);
        bounded(t, 63, 2, false, 2);
        bounded(t, 64, 0, true, 0);
        bounded(t, 64, 1, false, 1);
        bounded(t, 65, 0, false, 0);
        bounded(t, 0, 0, true, 0);
        bounded(t, -1, 0, false, 0);
        bounded(t, -1, 1, false, 1);
        bounded(t, -1, 2, false, 2);
        // 65 are one too many, and rounded to 72.
        one(t, BASE, 64, 65, Code.cap(8, 5, 1, 2)).dueCap("65", 5, false, BASE, BASE, 72);
        // 100 are rounded to 104, which there are, or are not: 100 itself must be in BOUNDS.
        one(t, BASE, 104, 100, Code.cap(8, 5, 1, 2)).dueCap("100 of 104", 5, true, BASE, BASE, 104);
        one(t, BASE, 96, 100, Code.cap(8, 5, 1, 2)).dueCap("100 of 96", 5, false, BASE, BASE, 104);
        one(t, BASE, 64, 64, Code.cap(8, 1, 1, 2)).dueCap("into itself", 1, true, BASE, BASE, 64);
        // From 4 on 68 are up to TOP, and rounded down to BASE; 69 are one too many.
        for (int many = 67; many < 70; many++) {
            int[] code = {Code.incOffset(1, 1, 4), Code.cap(8, 5, 1, 2), Code.setBounds(6, 1, many)};
            Bench b = new Bench(t, code).root(1, BASE, 72, 4095).number(2, many).run(3);
            b.dueCap(many + " from 4 on", 5, many < 69, BASE + 4, BASE, many < 69 ? 72 : 80);
            b.dueCap(many + " from 4 on, by immediate", 6, many < 69, BASE + 4, BASE, many < 69 ? 72 : 80);
        }
    }

    private static void boundsKinds(Tests t) {
        t.says("no TAG if c is sealed or a gate, or these are not in its BOUNDS.");
        for (int number = 8; number < 10; number++) {
            int set = Code.cap(number, 5, 1, 2);
            kind(t, "open", true, 15, Code.NOP, set);
            kind(t, "a gate", false, 14, Code.inspect(17, 1, 1), set);
            kind(t, "sealed", false, 11, Code.cap(11, 1, 1, 3), set);
            kind(t, "no TAG", false, 15, Code.inspect(11, 1, 1), set);
        }
        kind(t, "a gate", false, 14, Code.inspect(17, 1, 1), Code.setBounds(5, 1, 16));
        kind(t, "sealed", false, 11, Code.cap(11, 1, 1, 3), Code.setBounds(5, 1, 16));
    }

    private static void kind(Tests t, String what, boolean tag, int type, int change, int set) {
        Bench b = new Bench(t, change, set).root(1, BASE, 64, 4095).root(3, 11, 1, 4095).number(2, 16).run(2);
        b.dueCap(what, 5, tag, BASE, BASE, 16).dueKind(what, 5, 4095, type);
    }

    private static void boundsBeyond(Tests t) {
        t.says("(beyond 2^32: packed as up to 2^32, no TAG.)");
        for (int number = 8; number < 10; number++) {
            int code = Code.cap(number, 5, 1, 2);
            one(t, -16, 16, 15, code).dueCap("one less than 2^32", 5, true, -16, -16, 15);
            one(t, -16, 16, 16, code).dueCap("up to 2^32", 5, true, -16, -16, 16);
            one(t, -16, 16, 17, code).dueCap("one beyond 2^32", 5, false, -16, -16, 16);
            one(t, -16, 16, -1, code).dueCap("as far beyond as can be", 5, false, -16, -16, 16);
            one(t, MIN, MAX, MIN, code).dueCap("the upper half", 5, true, MIN, MIN, MIN);
            one(t, MIN, MAX, MIN + 1, code).dueCap("one more", 5, false, MIN, MIN, MIN);
            one(t, 0, MAX, MIN, code).dueCap("the lower half", 5, true, 0, 0, MIN);
            // 2^32 - 1 from 0 are rounded to all there is, from 1 they are all there is but a byte.
            one(t, 0, MAX, -1, code).dueCap("2^32 - 1 from 0", 5, false, 0, 0, -1);
            one(t, 1, 8, -1, code).dueCap("2^32 - 1 from 1", 5, false, 1, 0, -1);
            one(t, 2, 8, -1, code).dueCap("2^32 - 1 from 2", 5, false, 2, 0, -1);
        }
        Bench immediate = one(t, -16, 16, 0, Code.setBounds(5, 1, 17));
        immediate.dueCap("one beyond, by immediate", 5, false, -16, -16, 16);
        one(t, -16, 16, 0, Code.setBounds(5, 1, 16)).dueCap("up to, by immediate", 5, true, -16, -16, 16);
    }

    private static void boundsExact(Tests t) {
        t.says("9 CSetBoundsExact: nor if it is not EXACT.");
        int[] lengths = {0, 63, 64, 65, 71, 72, 73, 119, 120, 121, 127, 128, 129, 143, 144, 255, 256};
        boolean[] exact = {true, true, true, false, false, true, false, false, true, false, false, true, false, false,
            true, false, true};
        for (int k = 0; k < lengths.length; k++) {
            Bench b = one(t, BASE, 256, lengths[k], Code.cap(9, 5, 1, 2));
            t.due("exactly " + lengths[k], b.core.told(5, 0), exact[k] ? 1 : 0);
            Bench a = one(t, BASE, 256, lengths[k], Code.cap(8, 5, 1, 2));
            t.due("about " + lengths[k], a.core.told(5, 0), 1);
            t.due("both have the same BOUNDS", a.core.told(5, 2), b.core.told(5, 2));
        }
        // It is the base that is rounded.
        int[] code = {Code.incOffset(1, 1, 4), Code.cap(9, 5, 1, 2), Code.cap(8, 6, 1, 2)};
        Bench low = new Bench(t, code).root(1, BASE, 256, 4095).number(2, 68).run(3);
        low.dueCap("from 4 on, exactly", 5, false, BASE + 4, BASE, 72).dueCap("about", 6, true, BASE + 4, BASE, 72);
    }

    private static void perms(Tests t) {
        t.says("13 CAndPerm: PERMS that d's number has too; no TAG if c is not open.");
        for (int bit = 0; bit < 32; bit++) {
            Bench b = one(t, BASE, 64, 1 << bit, Code.cap(13, 5, 1, 2)).dueCap("bit " + bit, 5, true, BASE, BASE, 64);
            b.dueKind("bit " + bit, 5, bit < 12 ? 1 << bit : 0, 15);
            Bench all = one(t, BASE, 64, ~(1 << bit), Code.cap(13, 5, 1, 2));
            all.dueKind("all but bit " + bit, 5, bit < 12 ? 4095 - (1 << bit) : 4095, 15);
        }
        Bench few = new Bench(t, Code.cap(13, 5, 1, 2)).root(1, BASE, 64, 0x5A5).number(2, -1).run(1);
        few.dueKind("no more than it had", 5, 0x5A5, 15);
        Bench gate = new Bench(t, Code.inspect(17, 1, 1), Code.cap(13, 5, 1, 2)).root(1, BASE, 64, 7).number(2, -1).run(2);
        gate.dueCap("a gate", 5, false, BASE, BASE, 64).dueKind("a gate", 5, 7, 14);
        Bench sealed = new Bench(t, Code.cap(11, 1, 1, 3), Code.cap(13, 5, 1, 2)).root(1, BASE, 64, 7);
        sealed.root(3, 11, 1, 4095).number(2, -1).run(2).dueCap("sealed", 5, false, BASE, BASE, 64);
        sealed.dueKind("sealed", 5, 7, 11);
    }

    private static void offsets(Tests t) {
        t.says("15 CSetOffset: c MOVED to BASE and d.");
        int[] code = {Code.incOffset(1, 1, 5), Code.cap(15, 5, 1, 2)};
        for (int by : new int[] {0, 5, 63, 64, 223, 224, -1, -32, -33, MIN, MAX}) {
            Bench b = new Bench(t, code).root(1, BASE, 64, 4095).number(2, by).run(2);
            t.due("offset " + by + ": ADDRESS", b.core.told(5, 1), BASE + by);
            t.due("offset " + by + ": TAG", b.core.told(5, 0), by >= -32 && by <= 223 ? 1 : 0);
        }
        // Over 2^32 to 0, and from 0 to before it.
        one(t, -16, 16, 16, Code.cap(15, 5, 1, 2)).dueCap("over 2^32", 5, true, 0, -16, 16);
        one(t, 0, 16, -1, Code.cap(15, 5, 1, 2)).dueCap("before 0", 5, true, -1, 0, 16);
    }

    private static void addresses(Tests t) {
        t.says("16 CSetAddr, 17 CIncOffset: c MOVED to d, by d.");
        for (int by : new int[] {0, 63, 64, 223, 224, -1, -32, -33, MIN, MAX}) {
            int tag = by >= -32 && by <= 223 ? 1 : 0;
            Bench to = one(t, BASE, 64, BASE + by, Code.cap(16, 5, 1, 2));
            t.due("to " + (BASE + by) + ": ADDRESS", to.core.told(5, 1), BASE + by);
            t.due("to " + (BASE + by) + ": TAG", to.core.told(5, 0), tag);
            Bench on = one(t, BASE, 64, by, Code.cap(17, 5, 1, 2));
            t.due("by " + by + ": ADDRESS", on.core.told(5, 1), BASE + by);
            t.due("by " + by + ": TAG", on.core.told(5, 0), tag);
        }
        one(t, -16, 16, 16, Code.cap(17, 5, 1, 2)).dueCap("by, over 2^32", 5, true, 0, -16, 16);
        one(t, 0, 16, -1, Code.cap(17, 5, 1, 2)).dueCap("by, before 0", 5, true, -1, 0, 16);
        one(t, 0, 16, -1, Code.cap(16, 5, 1, 2)).dueCap("to, before 0", 5, true, -1, 0, 16);
    }

    private static void differences(Tests t) {
        t.says("20 CSub: c's number less d's.");
        one(t, 0, 8, 1, Code.cap(20, 5, 1, 2)).dueNumber("0 less 1", 5, -1);
        one(t, MIN, 8, 1, Code.cap(20, 5, 1, 2)).dueNumber("MIN less 1", 5, MAX);
        one(t, MIN, 8, MIN, Code.cap(20, 5, 1, 2)).dueNumber("the same", 5, 0);
        one(t, 0, 8, MIN, Code.cap(20, 5, 2, 1)).dueNumber("MIN less 0", 5, MIN);
        one(t, -1, 1, MIN, Code.cap(20, 5, 1, 2)).dueNumber("-1 less MIN", 5, MAX);
    }

    private static void high(Tests t) {
        t.says("22 CSetHigh: c with META d as it is told, no TAG.");
        for (int meta : new int[] {0, -1, MIN, MAX, 1000194, 1}) {
            Bench b = one(t, BASE, 64, meta, Code.cap(22, 5, 1, 2));
            t.due("META", b.core.told(5, 2), meta);
            t.due("ADDRESS", b.core.told(5, 1), BASE);
            t.due("TAG", b.core.told(5, 0), 0);
            t.due("PERMS", b.core.told(5, 5), (meta ^ 1000194) >>> 20);
            t.due("TYPE", b.core.told(5, 6), (meta ^ 1000194) >>> 16 & 15);
        }
        int[] code = {Code.inspect(23, 2, 1), Code.cap(22, 5, 1, 2)};
        Bench same = new Bench(t, code).root(1, BASE, 64, 4095).run(2);
        same.dueCap("its own META", 5, false, BASE, BASE, 64).dueKind("its own META", 5, 4095, 15);
    }

    /** c has the 64 bytes at 8192 and PERMS 0x0F7; d is made from a root, and its TAG taken away. */
    private static Bench build(Tests t, int base, int length, int perms) {
        Bench b = new Bench(t, Code.inspect(11, 5, 4), Code.cap(29, 6, 1, 5), Code.cap(32, 7, 1, 4));
        return b.root(1, BASE, 64, 0x0F7).root(4, base, length, perms).run(3).dueNoTrap("CBuildCap", 12);
    }

    private static void buildPart(Tests t, int base, int length, int perms, boolean due) {
        String what = length + " at " + base + " with " + perms;
        Bench b = build(t, base, length, perms);
        b.dueCap(what, 6, due, base, base, length).dueKind(what, 6, perms, 15);
        t.due(what + ": CTestSubset", b.address(7), due ? 1 : 0);
        t.due(what + ": grown()", b.core.grown(), 0);
    }

    private static void built(Tests t) {
        t.says("its BOUNDS are within c's, its PERMS among c's.");
        buildPart(t, BASE, 64, 0x0F7, true);
        buildPart(t, BASE, 63, 0x0F7, true);
        buildPart(t, BASE, 72, 0x0F7, false);
        buildPart(t, BASE - 8, 72, 0x0F7, false);
        buildPart(t, BASE + 1, 63, 0x0F7, true);
        buildPart(t, BASE + 2, 63, 0x0F7, false);
        buildPart(t, BASE - 1, 63, 0x0F7, false);
        buildPart(t, BASE + 64, 0, 0x0F7, true);
        buildPart(t, BASE + 65, 0, 0x0F7, false);
        buildPart(t, BASE - 1, 0, 0x0F7, false);
        buildPart(t, BASE, 0, 0x0F7, true);
        for (int perm = 0; perm < 12; perm++) {
            buildPart(t, BASE, 64, 1 << perm, (0x0F7 >> perm & 1) != 0);
            buildPart(t, BASE, 64, 0x0F7 | 1 << perm, (0x0F7 >> perm & 1) != 0);
        }
        buildPart(t, BASE, 64, 0, true);
    }

    private static void builtKinds(Tests t) {
        t.says("29 CBuildCap: d, open unless it is a gate; TAG if c has one, is open,");
        for (int type = 0; type < 16; type++) {
            // Register 3 is c; d is its META with another TYPE.
            int[] code = {Code.inspect(23, 2, 1), Code.op(0, 4, 2, 2, 8), Code.cap(22, 5, 1, 2), Code.cap(29, 6, 1, 5)};
            Bench b = new Bench(t, code).root(1, BASE, 64, 4095).number(8, (type ^ 15) << 16).run(4);
            t.due("TYPE of d", b.core.told(5, 6), type);
            b.dueCap("built of " + type, 6, true, BASE, BASE, 64).dueKind("built", 6, 4095, type == 14 ? 14 : 15);
        }
        authority(t, "open", 1, Code.NOP);
        authority(t, "a gate", 0, Code.inspect(17, 1, 1));
        authority(t, "sealed", 0, Code.cap(11, 1, 1, 3));
        authority(t, "no TAG", 0, Code.inspect(11, 1, 1));
        Bench zero = new Bench(t, Code.cap(29, 6, 0, 4)).root(4, BASE, 64, 0).run(1);
        zero.dueCap("by register 0", 6, false, BASE, BASE, 64);
    }

    private static void authority(Tests t, String what, int tag, int change) {
        Bench b = new Bench(t, change, Code.cap(29, 6, 1, 4), Code.inspect(11, 4, 4), Code.cap(29, 7, 1, 4));
        b.root(1, BASE, 64, 4095).root(3, 11, 1, 4095).root(4, BASE, 64, 1).run(4);
        t.due("by c that is " + what, b.core.told(6, 0), tag);
        t.due("by c that is " + what + ", d without TAG", b.core.told(7, 0), tag);
    }

    private static void builtOrder(Tests t) {
        t.says("d's BASE is not above TOP,");
        // E 26, B 8, T 0: BASE is 2^29, and TOP 2^33, which is 0: both are where c has no fault to find with them.
        Bench b = new Bench(t, Code.cap(29, 6, 1, 5)).root(1, 0, 16384, 4095);
        b.core.put(5, 0, 8);
        b.run(1);
        t.due("BASE", b.core.told(6, 3), 1 << 29);
        t.due("TOP 0 is below BASE", b.core.told(6, 0), 0);
        for (int many = 0; many < 2; many++) {
            Bench same = new Bench(t, Code.inspect(11, 5, 4), Code.cap(29, 6, 1, 5)).root(1, BASE, 64, 4095);
            same.root(4, BASE + 32, many, 1).run(2).dueCap("BASE is TOP, or one below", 6, true, BASE + 32, BASE + 32, many);
        }
    }

    private static void subsets(Tests t) {
        t.says("32 CTestSubset: 1 if TAGS are the same, d's BOUNDS within c's, PERMS among c's, else 0.");
        for (int tags = 0; tags < 4; tags++) {
            int[] code = {(tags & 1) == 0 ? Code.inspect(11, 1, 1) : Code.NOP,
                (tags & 2) == 0 ? Code.inspect(11, 4, 4) : Code.NOP, Code.cap(32, 7, 1, 4)};
            Bench b = new Bench(t, code).root(1, BASE, 64, 7).root(4, BASE, 64, 7).run(3);
            b.dueNumber("TAGS " + tags, 7, tags == 0 || tags == 3 ? 1 : 0);
        }
        Bench null2 = new Bench(t, Code.cap(32, 7, 0, 2), Code.cap(32, 8, 2, 0)).number(2, 5).run(2);
        null2.dueNumber("of NULL, a number", 7, 1).dueNumber("of a number, NULL", 8, 1);
        // TYPES count for nothing.
        int[] kinds = {Code.inspect(17, 1, 1), Code.cap(11, 4, 4, 3), Code.cap(32, 7, 1, 4)};
        Bench k = new Bench(t, kinds).root(1, BASE, 64, 7).root(3, 0, 16, 4095).root(4, BASE, 64, 7).run(3);
        k.dueNumber("a gate and a sealed one", 7, 1);
    }
}
