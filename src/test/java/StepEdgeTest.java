/** The edges that Terms 3 names of registers, MEMORY, STEPS, the first of several TRAPS, and what is HALTED. */
public final class StepEdgeTest {
    private static final int DATA = 8192;
    private static final int TRAPS = Bench.TRAPS;

    public static void main(String[] args) {
        Tests t = new Tests("Terms 3, edges of STEPS");
        registerZero(t);
        words(t);
        tags(t);
        tagsByCapabilities(t);
        reachOrder(t);
        fetchBounds(t);
        fetchPlaces(t);
        fetchOrder(t);
        none(t);
        traps(t);
        halts(t);
        goesOn(t);
        t.end();
    }

    private static void registerZero(Tests t) {
        t.says("REGISTERS 0 (always NULL) to 31,");
        int[] codes = {Code.lui(0, 5), Code.auipc(0, 0), Code.jal(0, 4), Code.jalr(0, 2, 0), Code.addi(0, 0, 7),
            Code.op(0, 0, 0, 1, 1), Code.load(2, 0, 1, 0), Code.load(3, 0, 1, 8), Code.csr(1, 0, Code.CAUSE, 1),
            Code.special(0, 28, 0), Code.special(0, 0, 0), Code.incOffset(0, 1, 4), Code.setBounds(0, 1, 8),
            Code.cap(8, 0, 1, 3), Code.cap(9, 0, 1, 3), Code.cap(11, 0, 1, 1), Code.cap(12, 0, 1, 1),
            Code.cap(13, 0, 1, 1), Code.cap(15, 0, 1, 3), Code.cap(16, 0, 1, 1), Code.cap(17, 0, 1, 3),
            Code.cap(20, 0, 1, 3), Code.cap(22, 0, 1, 3), Code.cap(29, 0, 1, 1), Code.cap(32, 0, 1, 1),
            Code.inspect(0, 0, 1), Code.inspect(8, 0, 1), Code.inspect(9, 0, 1), Code.inspect(10, 0, 1),
            Code.inspect(11, 0, 1), Code.inspect(17, 0, 1), Code.inspect(23, 0, 1)};
        for (int code : codes) {
            Bench b = new Bench(t, Code.store(3, 1, 1, 8), code).root(1, DATA, 64, 4095).root(2, 8, 64, 4095);
            b.core.word(DATA / 4, 99);
            b.number(3, 5).run(2).dueNoTrap("into register 0: " + Integer.toHexString(code), 8);
            b.dueNumber("register 0 behind " + Integer.toHexString(code), 0, 0);
        }
        // Register 31 is one like the others.
        new Bench(t, Code.addi(31, 0, 7)).run(1).dueNumber("register 31", 31, 7);
    }

    private static void words(Tests t) {
        t.says("MEMORY: WORDS 0 to 4095 (ADDRESSES 0 to 16383),");
        Bench b = new Bench(t, Code.load(2, 5, 1, 0), Code.load(4, 6, 2, 3), Code.store(0, 3, 2, 3));
        b.root(1, 0, 4, 4095).root(2, 16380, 8, 4095).number(3, 0x55);
        b.core.word(4095, 0xAA000000);
        b.run(3).dueNoTrap("the first and the last byte", 12).dueNumber("the first WORD", 5, Code.load(2, 5, 1, 0));
        b.dueNumber("the last byte", 6, 0xAA);
        t.due("the last WORD", b.core.memory(4095), 0x55000000);
        new Bench(t, Code.load(4, 6, 2, 4)).root(2, 16380, 8, 4095).run(1).dueTrap("the byte behind", 5, 16384, 0);
        new Bench(t, Code.store(0, 6, 2, 4)).root(2, 16380, 8, 4095).run(1).dueTrap("the byte behind", 7, 16384, 0);
    }

    private static void tags(Tests t) {
        t.says("a TAG for each eight bytes; what is written there as a number takes it away.");
        for (int function = 0; function < 3; function++) {
            for (int by = 8; by < 32; by += 1 << function) {
                int[] code = {Code.store(3, 1, 1, 16), Code.store(function, 2, 1, by)};
                Bench b = new Bench(t, code).root(1, DATA, 64, 4095).run(2).dueNoTrap("stored", 8);
                boolean stays = by < 16 || by > 23;
                t.isTrue("TAG behind a number of " + (1 << function) + " at " + by, b.core.tag(2052) == stays);
                t.due("TAGS behind it", b.core.count(6), stays ? 1 : 0);
            }
        }
        for (int i = 2050; i < 2056; i++) {
            Bench b = new Bench(t, Code.store(3, 1, 1, 16)).root(1, DATA, 64, 4095).run(1);
            b.core.word(i, b.core.memory(i));
            t.isTrue("TAG behind word(" + i + ")", b.core.tag(2053) == (i < 2052 || i > 2053));
        }
        // The first eight bytes and the last.
        for (int at = 0; at < 16384; at += 16376) {
            Bench b = new Bench(t, Code.jal(0, 64)).root(1, at, 8, 4095);
            b.core.word(16, Code.store(3, 1, 1, 0));
            b.core.word(17, Code.store(0, 2, 1, 7));
            b.run(2);
            t.isTrue("TAG at " + at, b.core.tag(at / 4) && b.core.tag(at / 4 + 1));
            t.due("TAGS", b.core.count(6), 1);
            b.run(1);
            t.isTrue("no TAG at " + at, !b.core.tag(at / 4) && !b.core.tag(at / 4 + 1));
        }
    }

    private static void tagsByCapabilities(Tests t) {
        t.says("TAG is written.");
        int[] code = {Code.store(3, 1, 1, 16), Code.store(3, 2, 1, 16), Code.store(3, 1, 1, 16), Code.store(3, 3, 1, 24)};
        Bench b = new Bench(t, code).root(1, DATA, 64, 4095).number(2, 5).run(1);
        t.isTrue("TAG of one that has it", b.core.tag(2052));
        b.run(1);
        t.isTrue("TAG of one that has none", !b.core.tag(2052));
        b.run(1);
        t.isTrue("TAG again", b.core.tag(2052));
        b.run(1);
        t.isTrue("TAG beside one that has none", b.core.tag(2052) && !b.core.tag(2054));
    }

    /** Each load and each store: what is wrong is taken away one by one, from the first on. */
    private static void reachOrder(Tests t) {
        t.says("else TRAP 28 by the first of these: no TAG 2, not open 3, without PERM P (RUN 17, LOAD 18, STORE 19),"
            + " not in BOUNDS 1; VALUE 32 times its register (32 for PCC) and that.");
        int seal = Code.cap(11, 7, 1, 3);
        int clear = Code.inspect(11, 7, 7);
        int copy = Code.inspect(10, 7, 1);
        for (int function = 0; function < 4; function++) {
            int[] codes = {Code.load(function, 5, 7, 64 + 1), Code.store(function, 5, 7, 64 + 1)};
            for (int k = 0; k < 2; k++) {
                int perm = k == 0 ? Bench.LOAD : Bench.STORE;
                reach(t, 4095 - perm, 32 * 7 + 2, seal, clear, codes[k]);
                reach(t, 4095 - perm, 32 * 7 + 2, copy, clear, codes[k]);
                reach(t, 4095 - perm, 32 * 7 + 3, seal, Code.NOP, codes[k]);
                reach(t, 4095 - perm, 32 * 7 + 18 + k, copy, Code.NOP, codes[k]);
                reach(t, 4095, 32 * 7 + 1, copy, Code.NOP, codes[k]);
            }
        }
        reach(t, 4095, 32 * 7 + 3, Code.inspect(17, 7, 1), Code.NOP, Code.load(2, 5, 7, 0));
        reach(t, 4095, 32 * 31 + 2, Code.NOP, Code.NOP, Code.load(2, 5, 31, 0));
        reach(t, 4095, 2, Code.NOP, Code.NOP, Code.load(2, 5, 0, 0));
        reach(t, 4095, 32 + 1, Code.NOP, Code.NOP, Code.load(2, 5, 1, 64));
    }

    private static void reach(Tests t, int perms, int value, int... code) {
        Bench b = new Bench(t, code).root(1, DATA, 64, perms).root(3, 11, 1, 4095).number(5, 77).run(3);
        b.dueTrap("reach with " + perms, 28, value, 8).dueNumber("nothing loaded", 5, 77);
        t.due("TAGS", b.core.count(6), 0);
    }

    private static void fetch(Tests t, String what, int base, int length, int cause, int value) {
        Bench b = new Bench(t).root(32, base, length, Bench.RUN);
        if (base >= 0 && base < 16384) {
            b.core.word(base / 4, Code.NOP);
        }
        b.run(1);
        if (cause < 0) {
            b.dueNoTrap(what, base + 4);
        } else {
            b.dueTrap(what, cause, value, base);
        }
    }

    private static void fetchBounds(Tests t) {
        t.says("First PCC reaches 4 bytes at its ADDRESS by RUN,");
        fetch(t, "four bytes", 64, 4, -1, 0);
        fetch(t, "three bytes", 64, 3, 28, 1025);
        fetch(t, "five bytes", 64, 5, -1, 0);
        fetch(t, "nothing", 64, 0, 28, 1025);
        for (int by = -4; by <= 12; by += 4) {
            // Eight bytes at 64, and a PCC that was moved within and out of them.
            int[] code = {Code.incOffset(1, 1, by), Code.special(0, 31, 1), Code.MRET};
            Bench b = new Bench(t, code).root(1, 64, 8, Bench.RUN);
            for (int i = 15; i < 20; i++) {
                b.core.word(i, Code.NOP);
            }
            b.run(4);
            if (by == 0 || by == 4) {
                b.dueNoTrap("PCC moved by " + by, 64 + by + 4);
            } else {
                b.dueTrap("PCC moved by " + by, 28, 1025, 64 + by);
            }
        }
        // It runs to the end of its BOUNDS, with its TAG, and not on.
        Bench b = new Bench(t, Code.NOP, Code.NOP, Code.NOP).root(32, 0, 8, Bench.RUN).run(2);
        b.dueNoTrap("at TOP", 8).dueCap("at TOP", 32, true, 8, 0, 8).run(1).dueTrap("behind TOP", 28, 1025, 8);
    }

    private static void fetchPlaces(Tests t) {
        t.says("that is a multiple of 4 (else TRAP 0) and below 16384 (else 1; VALUE of both the ADDRESS).");
        for (int at = 64; at < 69; at++) {
            fetch(t, "a PCC at " + at, at, 32, at % 4 == 0 ? -1 : 0, at);
        }
        fetch(t, "the last WORD", 16380, 4, -1, 0);
        fetch(t, "behind it", 16384, 4, 1, 16384);
        fetch(t, "no multiple, the last one", 16383, 8, 0, 16383);
        fetch(t, "no multiple comes first", 16385, 8, 0, 16385);
        fetch(t, "the half of the space", Integer.MIN_VALUE, 4, 1, Integer.MIN_VALUE);
        fetch(t, "the end of the space", -4, 4, 1, -4);
        Bench on = new Bench(t).root(32, 16380, 8, Bench.RUN);
        on.core.word(4095, Code.NOP);
        on.run(1).dueNoTrap("the last WORD is done", 16384).run(1).dueTrap("and none behind", 1, 16384, 16384);
    }

    /** A PCC that has all that can be wrong, from one thing on. */
    private static void fetchOrder(Tests t) {
        t.says("A STEP does the instruction at PCC's ADDRESS, or is a TRAP.");
        int none = Code.NOP;
        int seal = Code.cap(11, 1, 1, 3);
        int clear = Code.inspect(11, 1, 1);
        int out = Code.incOffset(1, 1, 9);
        int odd = Code.incOffset(1, 1, 1);
        order(t, "no TAG", 0, 28, 1024 + 2, out, seal, clear);
        order(t, "sealed", 0, 28, 1024 + 3, out, seal, none);
        order(t, "no RUN", 4095 - Bench.RUN, 28, 1024 + 17, out, none, none);
        order(t, "out of BOUNDS", Bench.RUN, 28, 1024 + 1, out, none, none);
        order(t, "no multiple", Bench.RUN, 0, 16384 + 1, odd, none, none);
        order(t, "beyond MEMORY", Bench.RUN, 1, 16384, none, none, none);
    }

    private static void order(Tests t, String what, int perms, int cause, int value, int move, int seal, int clear) {
        int[] code = {move, seal, clear, Code.special(0, 31, 1), Code.MRET};
        Bench b = new Bench(t, code).root(1, 16384, 8, perms).root(3, 0, 16, 4095).run(6);
        b.dueTrap(what, cause, value, b.address(1));
        t.due(what + ": STEPS", b.core.count(3), 6);
        t.due(what + ": TRAPS", b.core.count(4), 1);
    }

    private static void none(Tests t) {
        t.says("An instruction that is none here: 2 (VALUE it).");
        for (int code : new int[] {0, -1, 0x12, 0x14, 0x13 ^ 1, 0x13 ^ 2, 0x1B, 0x3B, 0x2F, 0x7F, Integer.MIN_VALUE}) {
            new Bench(t, code).run(1).dueTrap("none", 2, code, 0);
        }
        // What is none has no registers that could be wrong.
        int load = Code.load(6, 5, 0, 1);
        new Bench(t, load).run(1).dueTrap("no such load, no TAG", 2, load, 0);
        int store = Code.store(4, 5, 0, 1);
        new Bench(t, store).run(1).dueTrap("no such store, no TAG", 2, store, 0);
        int jump = Code.jalr(5, 0, 1) | 1 << 12;
        new Bench(t, jump).run(1).dueTrap("no such jump, no TAG", 2, jump, 0);
        // PCC comes before the instruction.
        new Bench(t, -1).root(32, 0, 3, Bench.RUN).run(1).dueTrap("PCC first", 28, 1025, 0);
    }

    private static void traps(Tests t) {
        t.says("A TRAP: MEPCC is PCC, CAUSE and VALUE are its, PCC is MTCC;");
        Bench b = new Bench(t, Code.NOP, Code.ECALL).root(32, 0, 64, 0x802).root(33, TRAPS + 4, 64, 0x403);
        b.root(36, 8, 8, 1).run(1);
        t.due("MEPCC before", b.core.told(36, 1), 8);
        int pcc = b.core.told(32, 2);
        b.run(1);
        b.dueCap("MEPCC", 36, true, 4, 0, 64).dueKind("MEPCC", 36, 0x802, 15);
        t.due("META of MEPCC", b.core.told(36, 2), pcc);
        b.dueCap("PCC", 32, true, TRAPS + 4, b.core.told(33, 3), b.core.told(33, 4)).dueKind("PCC", 32, 0x403, 15);
        b.dueCap("MTCC", 33, true, TRAPS + 4, b.core.told(32, 3), b.core.told(32, 4));
        t.due("CAUSE", b.core.count(1), 11);
        t.due("VALUE", b.core.count(2), 0);
        t.due("STEPS", b.core.count(3), 2);
        t.due("TRAPS", b.core.count(4), 1);
        // A second TRAP, at once: CAUSE, VALUE and MEPCC are the second's.
        Bench two = new Bench(t, Code.ECALL);
        two.core.word(TRAPS / 4, 0x77);
        two.run(2).dueTrap("the second", 2, 0x77, TRAPS);
        t.due("TRAPS", two.core.count(4), 2);
    }

    private static void halts(Tests t) {
        t.says("if that could not be gone on from (by the three just named), the machine is HALTED.");
        halt(t, "as it should be", true, TRAPS, 4, Bench.RUN, 0, Code.NOP);
        halt(t, "no TAG", false, TRAPS, 4, Bench.RUN, 0, Code.inspect(11, 1, 1));
        halt(t, "a gate", false, TRAPS, 4, Bench.RUN, 0, Code.inspect(17, 1, 1));
        halt(t, "sealed", false, TRAPS, 4, Bench.RUN, 0, Code.cap(11, 1, 1, 3));
        halt(t, "no RUN", false, TRAPS, 4, 4095 - Bench.RUN, 0, Code.NOP);
        halt(t, "three bytes", false, TRAPS, 3, Bench.RUN, 0, Code.NOP);
        halt(t, "moved to TOP", false, TRAPS, 4, Bench.RUN, 4, Code.NOP);
        halt(t, "moved before BASE", false, TRAPS, 4, Bench.RUN, -4, Code.NOP);
        halt(t, "moved within", true, TRAPS, 8, Bench.RUN, 4, Code.NOP);
        halt(t, "no multiple, 1", false, TRAPS, 8, Bench.RUN, 1, Code.NOP);
        halt(t, "no multiple, 2", false, TRAPS, 8, Bench.RUN, 2, Code.NOP);
        halt(t, "no multiple, 3", false, TRAPS, 8, Bench.RUN, 3, Code.NOP);
        halt(t, "the last WORD", true, 16380, 4, Bench.RUN, 0, Code.NOP);
        halt(t, "behind MEMORY", false, 16384, 4, Bench.RUN, 0, Code.NOP);
        halt(t, "the end of the space", false, -4, 4, Bench.RUN, 0, Code.NOP);
    }

    /** MTCC is register 1, moved and changed; then comes a TRAP. */
    private static void halt(Tests t, String what, boolean goesOn, int base, int length, int perms, int by, int change) {
        Bench b = new Bench(t, Code.incOffset(1, 1, by), change, Code.special(0, 28, 1), Code.EBREAK);
        b.root(1, base, length, perms).root(3, 0, 16, 4095);
        b.core.word(4095, Code.NOP);
        t.due(what + ": steps", b.core.run(4), 4);
        t.due(what + ": HALTED", b.core.count(0), goesOn ? 0 : 1);
        t.due(what + ": CAUSE", b.core.count(1), 3);
        t.due(what + ": VALUE", b.core.count(2), 0);
        t.due(what + ": MEPCC", b.core.told(36, 1), 12);
        t.due(what + ": PCC", b.core.told(32, 1), base + by);
        t.due(what + ": META of PCC", b.core.told(32, 2), b.core.told(1, 2));
        if (goesOn) {
            t.due(what + ": on", b.core.run(1), 1);
            t.due(what + ": TRAPS", b.core.count(4), 1);
        } else {
            t.refused(what + ": on", IllegalStateException.class, () -> b.core.run(1));
        }
    }

    private static void goesOn(Tests t) {
        t.says("Behind an instruction that is not a jump PCC is MOVED to the next one.");
        int[] codes = {Code.NOP, Code.FENCE, Code.lui(5, 1), Code.auipc(5, 1), Code.load(2, 5, 1, 0),
            Code.store(3, 1, 1, 0), Code.csr(1, 5, Code.CAUSE, 0), Code.special(5, 28, 0), Code.inspect(0, 5, 1),
            Code.branch(1, 0, 0, 64), Code.incOffset(5, 1, 4), Code.setBounds(5, 1, 4)};
        for (int code : codes) {
            Bench b = new Bench(t, code).root(1, DATA, 64, 4095).root(32, 0, 4, 4095).run(1);
            b.dueNoTrap("behind " + Integer.toHexString(code), 4).dueCap("PCC", 32, true, 4, 0, 4);
            b.dueKind("PCC", 32, 4095, 15);
        }
    }
}
