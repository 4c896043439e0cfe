/** Promise 5: ECALL, EBREAK, MRET, the numbers CAUSE and VALUE, CSpecialRW. */
public final class SystemTest {
    private static final int NO_SYSTEM = 4095 - Bench.SYSTEM;

    public static void main(String[] args) {
        Tests t = new Tests("promise 5: system");
        calls(t);
        returns(t);
        numbers(t);
        specials(t);
        t.end();
    }

    private static void calls(Tests t) {
        new Bench(t, Code.NOP, Code.ECALL).run(2).dueTrap("ECALL", 11, 0, 4);
        new Bench(t, Code.NOP, Code.EBREAK).run(2).dueTrap("EBREAK", 3, 0, 4);
        new Bench(t, NO_SYSTEM, new int[] {Code.ECALL}).run(1).dueTrap("ECALL without SYSTEM", 11, 0, 0);
        int[] none = {0x73 | 1 << 7, 0x73 | 1 << 15, 0x200073, 0x10500073, 0x30200073 | 1 << 7, 0x30200073 | 1 << 15,
            0x73 | 4 << 12, 0x34200073, 0x34204073, 0x34304073, 0x10200073};
        for (int code : none) {
            new Bench(t, code).run(1).dueTrap("no such instruction", 2, code, 0);
            new Bench(t, NO_SYSTEM, new int[] {code}).run(1).dueTrap("the same without SYSTEM", 2, code, 0);
        }
    }

    private static void returns(Tests t) {
        Bench b = new Bench(t, Code.MRET).root(36, 1024, 64, Bench.RUN).run(1);
        b.dueNoTrap("MRET", 1024).dueCap("PCC", 32, true, 1024, 1024, 64).dueKind("PCC", 32, Bench.RUN, 15);
        new Bench(t, NO_SYSTEM, new int[] {Code.MRET}).root(36, 1024, 64, Bench.RUN).run(1)
            .dueTrap("MRET without SYSTEM", 28, 1048, 0);
        Bench nowhere = new Bench(t, Code.MRET).run(1).dueNoTrap("MRET to NULL", 0);
        nowhere.run(1).dueTrap("behind it", 28, 1026, 0);
        int[] sealed = {Code.cap(11, 6, 6, 7), Code.special(0, 31, 6), Code.MRET};
        Bench s = new Bench(t, sealed).root(6, 1024, 64, Bench.ALL).root(7, 0, 16, Bench.ALL).run(3);
        s.dueKind("MRET to what is sealed", 32, 4095, 0).run(1).dueTrap("behind it", 28, 1027, 1024);
        Bench g = new Bench(t, Code.jal(5, 4), Code.special(0, 31, 5), Code.MRET).run(3);
        g.dueNoTrap("MRET to a gate", 4).dueKind("opened", 32, 4095, 15).dueKind("MEPCC stays", 36, 4095, 14);
    }

    private static void csr(Tests t, int function, int by, int dueOld, int dueNew) {
        for (int k = 0; k < 2; k++) {
            int[] code = {Code.csr(1, 0, Code.CAUSE + k, 5), Code.csr(function, 7, Code.CAUSE + k, by)};
            Bench b = new Bench(t, code).number(5, 0x0F0F00F1).number(6, 0x00FF00FF).run(2);
            b.dueNoTrap("csr " + function, 8).dueNumber("csr " + function + " old", 7, dueOld);
            t.due("csr " + function + " new", b.core.count(1 + k), dueNew);
            t.due("csr " + function + " the other", b.core.count(2 - k), 0);
        }
    }

    private static void numbers(Tests t) {
        int old = 0x0F0F00F1;
        csr(t, 1, 6, old, 0x00FF00FF);
        csr(t, 1, 0, old, 0);
        csr(t, 2, 6, old, 0x0FFF00FF);
        csr(t, 2, 0, old, old);
        csr(t, 3, 6, old, 0x0F000000);
        csr(t, 3, 0, old, old);
        csr(t, 5, 6, old, 6);
        csr(t, 5, 0, old, 0);
        csr(t, 6, 14, old, 0x0F0F00FF);
        csr(t, 6, 0, old, old);
        csr(t, 7, 17, old, 0x0F0F00E0);
        csr(t, 7, 0, old, old);
        Bench same = new Bench(t, Code.csr(1, 6, Code.VALUE, 6)).number(6, 99).run(1).dueNumber("by itself", 6, 0);
        t.due("by itself", same.core.count(2), 99);
        for (int function : new int[] {1, 2, 3, 5, 6, 7}) {
            int code = Code.csr(function, 7, Code.CAUSE, 0);
            new Bench(t, NO_SYSTEM, new int[] {code}).run(1).dueTrap("without SYSTEM", 28, 1048, 0);
            for (int number : new int[] {0, 0x300, 0x341, 0x344, 0xFFF}) {
                int other = Code.csr(function, 7, number, 0);
                new Bench(t, other).run(1).dueTrap("another number", 2, other, 0);
                new Bench(t, NO_SYSTEM, new int[] {other}).run(1).dueTrap("another, no SYSTEM", 2, other, 0);
            }
        }
    }

    private static void specials(Tests t) {
        Bench p = new Bench(t, Code.NOP, Code.special(5, 0, 0)).run(2);
        p.dueNoTrap("PCC is read", 8).dueCap("PCC is read", 5, true, 4, 0, 16384).dueKind("PCC is read", 5, 4095, 15);
        new Bench(t, NO_SYSTEM, new int[] {Code.special(5, 0, 0)}).run(1).dueNoTrap("PCC wants no SYSTEM", 4);
        for (int number = 28; number < 32; number++) {
            int r = number + 5;
            int[] code = {Code.special(0, number, 6), Code.special(6, number, 7), Code.special(8, number, 0)};
            Bench b = new Bench(t, code).root(6, 640, 32, 77).number(7, 1 << 20).run(3);
            b.dueNoTrap("special " + number, 12).dueCap("what it was", 6, true, 640, 640, 32);
            b.dueKind("what it was", 6, 77, 15).dueNumber("what it became", r, 1 << 20).dueNumber("read", 8, 1 << 20);
            Bench other = new Bench(t, Code.special(9, number, 9)).root(9, 640, 32, 77).root(r, 64, 8, 3).run(1);
            other.dueCap("swapped out", 9, true, 64, 64, 8).dueCap("swapped in", r, true, 640, 640, 32);
            for (int rs1 = 0; rs1 < 7; rs1 += 6) {
                int[] one = {Code.special(5, number, rs1)};
                Bench no = new Bench(t, NO_SYSTEM, one).root(6, 640, 32, 77).run(1);
                no.dueTrap("without SYSTEM", 28, 1048, 0).dueNumber("nothing read", 5, 0);
            }
        }
        for (int number = 0; number < 28; number++) {
            int code = Code.special(5, number, 6);
            new Bench(t, code).run(1).dueTrap("no such special", 2, code, 0);
            new Bench(t, NO_SYSTEM, new int[] {code}).run(1).dueTrap("none without SYSTEM", 2, code, 0);
            int reading = Code.special(5, number, 0);
            if (number != 0) {
                new Bench(t, reading).run(1).dueTrap("none to read", 2, reading, 0);
            }
        }
    }
}
