/** The edges that Terms 3 names of MRET, CAUSE and VALUE, and Terms 4 of CSpecialRW. */
public final class SystemEdgeTest {
    private static final int NO_SYSTEM = 4095 - Bench.SYSTEM;
    private static final int[] FUNCTIONS = {1, 2, 3, 5, 6, 7};

    public static void main(String[] args) {
        Tests t = new Tests("Terms 3 and 4, edges of SYSTEM");
        returns(t);
        numbers(t);
        nothingWritten(t);
        wantsSystem(t);
        specials(t);
        otherSpecials(t);
        pccIsOnlyRead(t);
        t.end();
    }

    private static void returns(Tests t) {
        t.says("MRET (0x30200073): PCC is MEPCC (open, if it is a gate).");
        Bench open = new Bench(t, Code.MRET).root(36, 1024, 4, 0x803).run(1).dueNoTrap("MRET", 1024);
        open.dueCap("PCC", 32, true, 1024, 1024, 4).dueKind("PCC", 32, 0x803, 15);
        open.dueCap("MEPCC", 36, true, 1024, 1024, 4).dueKind("MEPCC", 36, 0x803, 15);
        int special = Code.special(0, 31, 1);
        Bench gate = new Bench(t, Code.inspect(17, 1, 1), special, Code.MRET).root(1, 1024, 4, 0x803).run(3);
        gate.dueNoTrap("a gate", 1024).dueKind("PCC", 32, 0x803, 15).dueKind("MEPCC", 36, 0x803, 14);
        gate.dueCap("PCC", 32, true, 1024, 1024, 4);
        for (int type = 0; type < 12; type += 11) {
            int[] code = {Code.incOffset(3, 3, type), Code.cap(11, 1, 1, 3), special, Code.MRET};
            Bench sealed = new Bench(t, code).root(1, 1024, 4, 0x803).root(3, 0, 16, 4095).run(4);
            sealed.dueNoTrap("sealed by " + type, 1024).dueKind("PCC", 32, 0x803, type);
            sealed.run(1).dueTrap("and is not gone on from", 28, 1024 + 3, 1024);
        }
        for (int type = 12; type < 16; type++) {
            Bench put = new Bench(t, special, Code.MRET);
            put.core.put(1, 1024, (type ^ 15) << 16);
            put.run(2).dueNoTrap("no TAG, TYPE " + type, 1024).dueKind("PCC", 32, 0, type == 14 ? 15 : type);
            put.run(1).dueTrap("and is not gone on from", 28, 1024 + 2, 1024);
        }
        // A place that is none is found when it is gone on from.
        new Bench(t, Code.MRET).root(36, 1026, 8, 2).run(1).dueNoTrap("no multiple", 1026).run(1).dueTrap("then", 0, 1026, 1026);
        new Bench(t, Code.MRET).root(36, 16384, 8, 2).run(1).dueNoTrap("beyond", 16384).run(1).dueTrap("then", 1, 16384, 16384);
        for (int code : new int[] {0x30200073 | 1 << 7, 0x30200073 | 1 << 15, 0x30100073, 0x30300073, 0x10200073}) {
            new Bench(t, code).root(36, 1024, 4, 2).run(1).dueTrap("not MRET", 2, code, 0);
        }
    }

    private static void numbers(Tests t) {
        t.says("CSRRW, CSRRS, CSRRC (and with I) of 0x342 CAUSE, 0x343 VALUE (others: 2;");
        int old = 0x0F0F00F1;
        for (int k = 0; k < 2; k++) {
            changed(t, k, 1, 6, old, 0x80FF00FF);
            changed(t, k, 2, 6, old, 0x8FFF00FF);
            changed(t, k, 3, 6, old, 0x0F000000);
            changed(t, k, 5, 31, old, 31);
            changed(t, k, 5, 1, old, 1);
            changed(t, k, 5, 0, old, 0);
            changed(t, k, 6, 31, old, 0x0F0F00FF);
            changed(t, k, 6, 1, old, old);
            changed(t, k, 7, 31, old, 0x0F0F00E0);
            changed(t, k, 7, 1, old, 0x0F0F00F0);
            changed(t, k, 1, 0, old, 0);
        }
        for (int function : FUNCTIONS) {
            for (int number : new int[] {0, 0x341, 0x344, 0x142, 0xB42, 0x300, 0x305, 0x7FF, 0x800, 0xFFF}) {
                int code = Code.csr(function, 7, number, 6);
                Bench b = new Bench(t, code).number(6, 5).number(7, 77).run(1).dueTrap("another number", 2, code, 0);
                b.dueNumber("nothing read", 7, 77);
            }
        }
        for (int number = Code.CAUSE; number <= Code.VALUE; number++) {
            for (int function = 0; function < 8; function += 4) {
                int code = Code.csr(function, 7, number, 6);
                new Bench(t, code).run(1).dueTrap("no such function", 2, code, 0);
            }
        }
    }

    /** CAUSE (k 0) or VALUE is 0x0F0F00F1 and register 6 is 0x80FF00FF. */
    private static void changed(Tests t, int k, int function, int by, int dueOld, int dueNew) {
        int number = Code.CAUSE + k;
        Bench b = new Bench(t, Code.csr(1, 0, number, 5), Code.csr(function, 7, number, by)).number(5, 0x0F0F00F1);
        b.number(6, 0x80FF00FF).run(2).dueNoTrap("CSR " + function, 8).dueNumber("what it was", 7, dueOld);
        t.due("CSR " + function + " by " + by, b.core.count(1 + k), dueNew);
        t.due("the other", b.core.count(2 - k), 0);
    }

    private static void nothingWritten(Tests t) {
        t.says("S and C of register or number 0 write nothing).");
        for (int k = 0; k < 2; k++) {
            for (int function : new int[] {2, 3, 6, 7}) {
                changed(t, k, function, 0, 0x0F0F00F1, 0x0F0F00F1);
            }
        }
    }

    private static void wantsSystem(Tests t) {
        t.says("Both, and CSpecialRW of 28 to 31, want SYSTEM of PCC (else 28, VALUE 1048).");
        int[] codes = new int[2 + 2 * FUNCTIONS.length + 8];
        int many = 0;
        codes[many++] = Code.MRET;
        for (int function : FUNCTIONS) {
            codes[many++] = Code.csr(function, 7, Code.CAUSE, 0);
            codes[many++] = Code.csr(function, 7, Code.VALUE, 6);
        }
        for (int number = 28; number < 32; number++) {
            codes[many++] = Code.special(7, number, 0);
            codes[many++] = Code.special(7, number, 6);
        }
        for (int i = 0; i < many; i++) {
            Bench no = new Bench(t, NO_SYSTEM, new int[] {codes[i]}).number(6, 5).number(7, 77).run(1);
            no.dueTrap("without SYSTEM", 28, 1048, 0).dueNumber("nothing read", 7, 77);
            t.due("MTCC", no.core.told(33, 1), Bench.TRAPS);
            t.due("MTDC and MSCRATCHC", no.core.told(34, 1) | no.core.told(35, 1), 0);
            Bench only = new Bench(t, Bench.RUN | Bench.SYSTEM, new int[] {codes[i]}).number(6, 5).run(1);
            t.due("with SYSTEM alone", only.core.count(4), 0);
        }
    }

    private static void specials(Tests t) {
        t.says("1 CSpecialRW of number rs2 (0 PCC, 28 MTCC, 29 MTDC, 30 MSCRATCHC, 31 MEPCC;");
        for (int number = 28; number < 32; number++) {
            int r = number + 5;
            Bench read = new Bench(t, Code.special(7, number, 0)).root(r, 64 * r, 8, r).root(6, 640, 32, 77).run(1);
            read.dueCap("read " + number, 7, true, 64 * r, 64 * r, 8).dueKind("read", 7, r, 15);
            read.dueCap("it stays " + number, r, true, 64 * r, 64 * r, 8);
            Bench write = new Bench(t, Code.special(7, number, 6)).root(r, 64 * r, 8, r).root(6, 640, 32, 77).run(1);
            write.dueCap("what it was " + number, 7, true, 64 * r, 64 * r, 8);
            write.dueCap("what it becomes " + number, r, true, 640, 640, 32).dueKind("what it becomes", r, 77, 15);
            Bench same = new Bench(t, Code.special(6, number, 6)).root(r, 64 * r, 8, r).root(6, 640, 32, 77).run(1);
            same.dueCap("swapped " + number, 6, true, 64 * r, 64 * r, 8).dueCap("swapped", r, true, 640, 640, 32);
            Bench none = new Bench(t, Code.special(0, number, 6)).root(r, 64 * r, 8, r).root(6, 640, 32, 77).run(1);
            none.dueNumber("register 0", 0, 0).dueCap("written " + number, r, true, 640, 640, 32);
            // rs1 is not 0, but what it holds is NULL.
            Bench zero = new Bench(t, Code.special(7, number, 9)).root(r, 64 * r, 8, r).run(1);
            zero.dueNumber("NULL is written", r, 0);
            for (int other = 33; other < 37; other++) {
                if (other != r && other != 33) {
                    write.dueNumber("another one", other, 0);
                }
            }
        }
    }

    private static void otherSpecials(Tests t) {
        t.says("others, and 0 with rs1 not 0: TRAP 2): cd is what it was; it becomes c, if rs1 is not 0.");
        for (int number = 1; number < 28; number++) {
            for (int rs1 = 0; rs1 < 7; rs1 += 6) {
                int code = Code.special(7, number, rs1);
                Bench b = new Bench(t, code).number(7, 77).run(1).dueTrap("special " + number, 2, code, 0);
                b.dueNumber("nothing read", 7, 77);
            }
        }
    }

    private static void pccIsOnlyRead(Tests t) {
        t.says("and 0 with rs1 not 0: TRAP 2)");
        for (int rs1 = 1; rs1 < 32; rs1++) {
            int code = Code.special(7, 0, rs1);
            Bench b = new Bench(t, code).number(7, 77).run(1).dueTrap("PCC is not written", 2, code, 0);
            b.dueNumber("nothing read", 7, 77);
        }
        for (int perms : new int[] {4095, NO_SYSTEM, Bench.RUN}) {
            Bench b = new Bench(t, perms, new int[] {Code.NOP, Code.special(7, 0, 0)}).run(2).dueNoTrap("PCC is read", 8);
            b.dueCap("PCC", 7, true, 4, 0, 16384).dueKind("PCC", 7, perms, 15);
        }
    }
}
