/** The edges that promises 1 to 13 name, on their near side; RefusedTest has what lies beyond them. */
public final class PromiseEdgeTest {
    private static final int MIN = Integer.MIN_VALUE;
    private static final int MAX = Integer.MAX_VALUE;
    private static final int DATA = 8192;

    public static void main(String[] args) {
        Tests t = new Tests("promises 1 to 13, edges");
        manyCalls(t);
        newObject(t);
        words(t);
        wordsTakeTags(t);
        rootRegisters(t);
        rootLengths(t);
        rootsAgain(t);
        put(t);
        run(t);
        runHalted(t);
        told(t);
        tags(t);
        counts(t);
        countedTags(t);
        pack(t);
        bound(t);
        grown(t);
        check(t);
        t.end();
    }

    private static void manyCalls(Tests t) {
        t.says("An object is used for at most 512 calls after it has been made;");
        CheriCore core = new CheriCore();
        core.root(32, 0, 16384, 4095);
        core.word(0, Code.addi(5, 5, 1));
        core.word(1, Code.jal(0, -4));
        for (int call = 4; call <= 511; call++) {
            t.due("call " + call, core.run(1), 1);
        }
        t.due("call 512", core.told(5, 1), 254);
        CheriCore words = new CheriCore();
        for (int call = 1; call <= 511; call++) {
            t.due("call " + call, words.word(call * 8, call), 0);
        }
        t.due("call 512", words.memory(8 * 511), 511);
    }

    private static void newObject(Tests t) {
        t.says("All is NULL and 0; it goes on; there are no ROOTS.");
        CheriCore core = new CheriCore();
        for (int r = 0; r < 37; r += 4) {
            for (int what = 0; what < 7; what++) {
                t.due("told(" + r + ", " + what + ")", core.told(r, what), what == 4 ? -1 : what == 6 ? 15 : 0);
            }
        }
        for (int i : new int[] {0, 1, 7, 8, 2047, 2048, 4094, 4095}) {
            t.due("memory(" + i + ")", core.memory(i), 0);
            t.isTrue("no TAG at " + i, !core.tag(i));
        }
        for (int what = 0; what < 7; what++) {
            t.due("count(" + what + ")", core.count(what), 0);
        }
        for (int i = 0; i < 8; i++) {
            t.due("all eight ROOTS are left", core.root(1 + i, 0, 8, 1), 0);
        }
        t.due("it goes on", core.run(1), 1);
    }

    private static void words(Tests t) {
        t.says("WORD i becomes w, without TAG: what it was.");
        for (int i : new int[] {0, 1, 7, 8, 255, 256, 2047, 2048, 4087, 4088, 4094, 4095}) {
            CheriCore core = new CheriCore();
            t.due("at first, " + i, core.word(i, MIN), 0);
            t.due("what it was, " + i, core.word(i, MAX), MIN);
            t.due("the same again, " + i, core.word(i, MAX), MAX);
            t.due("what it is, " + i, core.memory(i), MAX);
            t.due("the one before", core.memory(i == 0 ? 4095 : i - 1), 0);
            t.due("the one behind", core.memory(i == 4095 ? 0 : i + 1), 0);
        }
    }

    private static void wordsTakeTags(Tests t) {
        t.says("WORD i becomes w, without TAG");
        for (int at = 0; at < 16384; at += 16376) {
            for (int half = 0; half < 2; half++) {
                Bench b = new Bench(t, Code.jal(0, 64)).root(1, at, 8, 4095);
                b.core.word(16, Code.store(3, 1, 1, 0));
                b.run(2);
                int i = at / 4 + half;
                t.isTrue("TAG of WORD " + i, b.core.tag(i) && b.core.tag(i ^ 1));
                int was = b.core.memory(i);
                t.due("the WORD that it was", b.core.word(i, was), was);
                t.isTrue("no TAG of either WORD", !b.core.tag(i) && !b.core.tag(i ^ 1));
                t.due("the other WORD", b.core.memory(i ^ 1), half == 0 ? b.core.told(1, 2) : at);
            }
        }
    }

    private static void rootRegisters(Tests t) {
        t.says("Register r (1 to 31, 32 PCC, 33 MTCC, 34 MTDC, 35 MSCRATCHC, 36 MEPCC) becomes ADDRESS base, BOUNDS from"
            + " there length (0 or more) bytes, PACKED, open, these PERMS, a TAG: one of the ROOTS (at most 8): its"
            + " BASE.");
        for (int r = 1; r < 37; r++) {
            CheriCore core = new CheriCore();
            t.due("root(" + r + ")", core.root(r, 1000, 4095, 0x8A5), 512);
            int[] due = {1, 1000, (0x8A5 << 20 | 15 << 16 | core.pack(1000, 4095)) ^ 1000194, 512, 4608, 0x8A5, 15};
            for (int what = 0; what < 7; what++) {
                t.due("told(" + r + ", " + what + ")", core.told(r, what), due[what]);
            }
            t.due("the register before", core.told(r - 1, 0), 0);
            t.due("the register behind", core.told(r == 36 ? 0 : r + 1, 0), 0);
            t.due("ROOTS", core.count(5), 1);
        }
    }

    private static void rootLengths(Tests t) {
        t.says("base and length (base without sign) beyond 2^32,");
        rootOf(t, 0, 0, 0, 0, 0);
        rootOf(t, 0, 1, 0, 1, 4095);
        rootOf(t, -1, 0, -1, 0, 0);
        rootOf(t, -1, 1, -1, 1, 4095);
        rootOf(t, -16, 15, -16, 15, 1);
        rootOf(t, -16, 16, -16, 16, 1);
        rootOf(t, MIN, MAX, MIN, MIN, 1);
        // Up to 2^32 itself: from 2^31 + 1 it is rounded down to 2^31.
        rootOf(t, MIN + 1, MAX, MIN, MIN, 1);
        rootOf(t, 0, MAX, 0, MIN, 1);
        rootOf(t, MAX, 1, MAX, 1, 1);
        rootOf(t, MAX, MAX, 0x70000000, 0x90000000, 1);
    }

    private static void rootOf(Tests t, int base, int length, int dueBase, int dueLength, int perms) {
        CheriCore core = new CheriCore();
        String what = length + " at " + base;
        t.due(what, core.root(5, base, length, perms), dueBase);
        t.due(what + ": ADDRESS", core.told(5, 1), base);
        t.due(what + ": BASE", core.told(5, 3), dueBase);
        t.due(what + ": length", core.told(5, 4), dueLength);
        t.due(what + ": PERMS", core.told(5, 5), perms);
        t.due(what + ": TAG", core.told(5, 0), 1);
        t.due(what + ": grown()", core.grown(), 0);
    }

    private static void rootsAgain(Tests t) {
        t.says("one of the ROOTS (at most 8)");
        CheriCore core = new CheriCore();
        for (int i = 1; i <= 8; i++) {
            t.due("the same register", core.root(9, 64, 8, i), 64);
            t.due("ROOTS", core.count(5), i);
            t.due("PERMS", core.told(9, 5), i);
        }
        core.put(9, 0, 0);
        t.due("ROOTS though none has a register", core.count(5), 8);
        t.refused("a ninth", IllegalStateException.class, () -> core.root(9, 64, 8, 1));
    }

    private static void put(Tests t) {
        t.says("Register r (1 to 31) becomes ADDRESS, META as it is told, no TAG.");
        for (int r = 1; r < 32; r += 10) {
            for (int n : new int[] {0, -1, MIN, MAX, 1000194}) {
                CheriCore core = new CheriCore();
                core.root(r, 64, 8, 1);
                core.put(r, n, ~n);
                t.due("TAG", core.told(r, 0), 0);
                t.due("ADDRESS", core.told(r, 1), n);
                t.due("META", core.told(r, 2), ~n);
                t.due("PERMS", core.told(r, 5), (~n ^ 1000194) >>> 20);
                t.due("TYPE", core.told(r, 6), (~n ^ 1000194) >>> 16 & 15);
                t.due("ROOTS", core.count(5), 1);
            }
        }
    }

    private static void run(Tests t) {
        t.says("n (1 to 10000) STEPS, fewer if it is HALTED by one: how many.");
        for (int n : new int[] {1, 2, 9999, 10000}) {
            Bench b = new Bench(t, Code.addi(5, 5, 1), Code.jal(0, -4));
            t.due("run(" + n + ")", b.core.run(n), n);
            t.due("STEPS", b.core.count(3), n);
            b.dueNumber("what they did", 5, (n + 1) / 2);
            t.due("run(1) behind it", b.core.run(1), 1);
            t.due("STEPS", b.core.count(3), n + 1);
        }
        // TRAPS are STEPS, and do not end it.
        Bench b = new Bench(t, Code.ECALL);
        b.core.word(Bench.TRAPS / 4, 0);
        t.due("all of them TRAPS", b.core.run(10000), 10000);
        t.due("STEPS", b.core.count(3), 10000);
        t.due("TRAPS", b.core.count(4), 10000);
    }

    private static void runHalted(Tests t) {
        t.says("fewer if it is HALTED by one: how many.");
        for (int n = 1; n <= 4; n++) {
            CheriCore core = new CheriCore();
            core.root(32, 0, 64, 4095);
            core.word(0, Code.NOP);
            core.word(1, Code.NOP);
            t.due("run(" + n + "), HALTED by the third", core.run(n), Math.min(n, 3));
            t.due("HALTED", core.count(0), n >= 3 ? 1 : 0);
            t.due("STEPS", core.count(3), Math.min(n, 3));
            t.due("TRAPS", core.count(4), n >= 3 ? 1 : 0);
        }
        CheriCore first = new CheriCore();
        t.due("HALTED by the first", first.run(10000), 1);
        t.due("CAUSE", first.count(1), 28);
        t.due("VALUE", first.count(2), 1026);
        // It stays so, whatever is put there.
        first.root(32, 0, 64, 4095);
        first.root(33, 0, 64, 4095);
        t.due("still HALTED", first.count(0), 1);
        t.refused("still HALTED", IllegalStateException.class, () -> first.run(1));
    }

    private static void told(Tests t) {
        t.says("Of register r (0 to 36) what 0: 1 if it has a TAG, else 0, 1: ADDRESS, 2: META as it is told, 3: BASE, 4:"
            + " TOP less BASE, at most 2^32 - 1 (as an int), 5: PERMS, 6: TYPE.");
        CheriCore core = new CheriCore();
        core.root(36, -64, 64, 4095);
        int[] due = {1, -64, (4095 << 20 | 15 << 16 | 16384 | 192) ^ 1000194, -64, 64, 4095, 15};
        for (int what = 0; what < 7; what++) {
            t.due("told(36, " + what + ")", core.told(36, what), due[what]);
            t.due("told(0, " + what + ")", core.told(0, what), what == 4 ? -1 : what == 6 ? 15 : 0);
        }
        // IE, E 25: 15 of 2^28; E 26: eight of 2^29, nine of 2^29.
        int open = 15 << 16 | 16384 | 3 << 8;
        core.put(5, 0, (open | 56 << 8 | 1) ^ 1000194);
        t.due("2^32 - 2^28", core.told(5, 4), -(1 << 28));
        core.put(5, 0, (open | 2) ^ 1000194);
        t.due("2^32", core.told(5, 4), -1);
        core.put(5, 0, (open | 8 << 8 | 2) ^ 1000194);
        t.due("2^32 + 2^29", core.told(5, 4), -1);
    }

    private static void tags(Tests t) {
        t.says("Whether WORD i stands in a CAPABILITY with a TAG.");
        Bench b = new Bench(t, Code.store(3, 1, 1, 8), Code.store(3, 2, 1, 16)).root(1, DATA, 64, 4095).run(2);
        boolean[] due = {false, false, true, true, false, false};
        for (int i = 0; i < due.length; i++) {
            t.isTrue("tag(" + (2048 + i) + ")", b.core.tag(2048 + i) == due[i]);
        }
        t.due("WORD of its ADDRESS", b.core.memory(2050), DATA);
        t.due("WORD of its META", b.core.memory(2051), b.core.told(1, 2));
        t.isTrue("the first and the last WORD", !b.core.tag(0) && !b.core.tag(4095));
        t.isTrue("looked at once more", b.core.tag(2050) && b.core.tag(2051));
    }

    private static void counts(Tests t) {
        t.says("What 0: 1 if it is HALTED, else 0, 1: CAUSE, 2: VALUE, 3: STEPS so far (an int, wrapping), 4: those that"
            + " were TRAPS, 5: ROOTS, 6: TAGS in MEMORY.");
        int[] code = {Code.store(3, 1, 1, 0), Code.load(2, 5, 1, 2), Code.NOP};
        Bench b = new Bench(t, code).root(1, DATA, 64, 4095);
        counted(t, b, 0, 0, 0, 0, 0, 3, 0);
        counted(t, b.run(1), 0, 0, 0, 1, 0, 3, 1);
        counted(t, b.run(1), 0, 4, DATA + 2, 2, 1, 3, 1);
        counted(t, b.run(1), 0, 4, DATA + 2, 3, 1, 3, 1);
        // A TRAP that a program wrote over is not counted away.
        b.core.word(Bench.TRAPS / 4 + 1, Code.csr(5, 0, Code.CAUSE, 31));
        counted(t, b.run(1), 0, 31, DATA + 2, 4, 1, 3, 1);
        if (Inside.isOurs(b.core)) {
            Inside.set(b.core, "steps", MAX);
            b.run(1);
            t.due("STEPS wrap", b.core.count(3), MIN);
        }
    }

    private static void counted(Tests t, Bench b, int... due) {
        for (int what = 0; what < 7; what++) {
            t.due("count(" + what + ")", b.core.count(what), due[what]);
        }
    }

    /** A program that at last stores over itself: the ADDRESS of what it stores is the instruction that does so. */
    private static void countedTags(Tests t) {
        t.says("6: TAGS in MEMORY.");
        CheriCore core = new CheriCore();
        int[] code = {Code.store(3, 5, 3, 0), Code.incOffset(3, 3, 8), Code.branch(1, 3, 6, -8), Code.store(3, 5, 4, 0)};
        for (int i = 0; i < code.length; i++) {
            core.word(i, code[i]);
        }
        core.root(32, 0, 16384, 4095);
        core.root(3, 16, 16368, 4095);
        core.root(4, 0, 16384, 4095);
        core.root(5, Code.store(3, 5, 4, 8), 0, 4095);
        core.put(6, 16384, 0);
        t.due("empty", core.count(6), 0);
        core.run(1);
        t.due("one", core.count(6), 1);
        core.run(3 * 2046 - 1);
        t.due("all behind the program", core.count(6), 2046);
        core.run(1);
        t.due("its first half too", core.count(6), 2047);
        core.run(1);
        t.due("full", core.count(6), 2048);
        t.due("no TRAP", core.count(4), 0);
        t.isTrue("the first and the last", core.tag(0) && core.tag(1) && core.tag(4094) && core.tag(4095));
        t.due("grown()", core.grown(), 0);
        t.due("check()", core.check(), 0);
        core.word(4095, 0);
        t.due("one less", core.count(6), 2047);
        core.word(4094, 0);
        t.due("the same eight bytes", core.count(6), 2047);
        core.word(0, 0);
        t.due("two less", core.count(6), 2046);
    }

    private static void pack(Tests t) {
        t.says("The lowest 15 bits of META for base and length PACKED, and 32768 if that is EXACT.");
        CheriCore core = new CheriCore();
        t.due("nothing at 0", core.pack(0, 0), 32768);
        t.due("nothing at the end", core.pack(-1, 0), 32768 | 63 << 8 | 255);
        t.due("a byte at the end", core.pack(-1, 1), 32768 | 255);
        t.due("all", core.pack(0, 1L << 32), 32768 | 16384 | 3 << 8 | 2);
        t.due("all but one", core.pack(0, (1L << 32) - 1), 16384 | 3 << 8 | 2);
        t.due("all but the first", core.pack(1, (1L << 32) - 1), 16384 | 3 << 8 | 2);
        t.due("the upper half", core.pack(MIN, 1L << 31), 32768 | 16384 | 3 << 8 | 64 | 1);
        t.due("the upper half but one", core.pack(MIN, (1L << 31) - 1), 16384 | 3 << 8 | 64 | 1);
        t.due("no ROOTS", core.count(5), 0);
    }

    private static void bound(Tests t) {
        t.says("BASE, or (top) TOP, of the lowest 15 bits of META and an ADDRESS.");
        CheriCore core = new CheriCore();
        for (int more : new int[] {0, 32768, 65536, MIN, -32768}) {
            t.due("BASE and " + more, core.bound(more | 7 << 8 | 200, 200, false), 200);
            t.due("TOP and " + more, core.bound(more | 7 << 8 | 200, 200, true), 263);
            t.due("BASE of all and " + more, core.bound(more | 17154, -1, false), 0);
            t.due("TOP of all and " + more, core.bound(more | 17154, -1, true), 1L << 32);
        }
        // The bit above T is IE: it is the last one that counts.
        t.due("bit 14", core.bound(1 << 14, 0, true), 64);
        t.due("bit 15", core.bound(1 << 15, 0, true), 0);
        // ADDRESSES have no sign.
        t.due("BASE at the end", core.bound(255, -1, false), (1L << 32) - 1);
        t.due("TOP at the end", core.bound(255, -1, true), 1L << 32);
    }

    private static void grown(Tests t) {
        t.says("How many CAPABILITIES with a TAG (in registers and MEMORY) are not in the BOUNDS of one of the ROOTS with"
            + " PERMS among its: always 0.");
        CheriCore core = new CheriCore();
        t.due("no ROOTS", core.grown(), 0);
        for (int i = 0; i < 8; i++) {
            core.root(1 + i, 64 * i, 63, 1 << i);
            t.due("ROOTS " + i, core.grown(), 0);
        }
    }

    private static void check(Tests t) {
        t.says("How much is wrong in caches:");
        Bench b = new Bench(t, Code.store(3, 1, 1, 0), Code.incOffset(1, 1, 8), Code.jal(0, -8)).root(1, 1024, 8192, 4095);
        t.due("at first", b.core.check(), 0);
        for (int k = 0; k < 100; k++) {
            b.run(31);
            t.due("check()", b.core.check(), 0);
            t.due("grown()", b.core.grown(), 0);
        }
    }
}
