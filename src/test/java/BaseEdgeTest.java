/** The edges of OP, OP-IMM, LUI, AUIPC, FENCE, ECALL and EBREAK, which Terms 3 takes from the manual of RV32I. */
public final class BaseEdgeTest {
    private static final int MIN = Integer.MIN_VALUE;
    private static final int MAX = Integer.MAX_VALUE;

    public static void main(String[] args) {
        Tests t = new Tests("Terms 3, edges of RV32I");
        sums(t);
        comparisons(t);
        shifts(t);
        bits(t);
        immediates(t);
        noSuch(t);
        uppers(t);
        others(t);
        t.end();
    }

    private static void op(Tests t, int number, int function, int a, int b, int due) {
        String what = "OP " + number + ", " + function + " of " + a + " and " + b;
        new Bench(t, Code.op(number, function, 7, 5, 6)).number(5, a).number(6, b).run(1).dueNoTrap(what, 4)
            .dueNumber(what, 7, due);
    }

    private static void immediate(Tests t, int function, int a, int by, int due) {
        String what = "OP-IMM " + function + " of " + a + " and " + by;
        new Bench(t, Code.immediate(function, 7, 5, by)).number(5, a).run(1).dueNoTrap(what, 4).dueNumber(what, 7, due);
    }

    private static void sums(Tests t) {
        t.says("OP and OP-IMM,");
        op(t, 0, 0, MAX, 1, MIN);
        op(t, 0, 0, MAX - 1, 1, MAX);
        op(t, 0, 0, -1, 1, 0);
        op(t, 0, 0, MIN, MIN, 0);
        op(t, 32, 0, MIN, 1, MAX);
        op(t, 32, 0, 0, MIN, MIN);
        op(t, 32, 0, 0, 1, -1);
        op(t, 32, 0, 5, 5, 0);
    }

    private static void comparisons(Tests t) {
        t.says("OP and OP-IMM, FENCE (nothing),");
        int[] edges = {MIN, MIN + 1, -2, -1, 0, 1, MAX - 1, MAX};
        for (int a : edges) {
            for (int b : edges) {
                op(t, 0, 2, a, b, a < b ? 1 : 0);
                op(t, 0, 3, a, b, Integer.toUnsignedLong(a) < Integer.toUnsignedLong(b) ? 1 : 0);
            }
        }
    }

    private static void shifts(Tests t) {
        t.says("Of RV32I (the manual of 2019):");
        for (int by : new int[] {0, 1, 30, 31}) {
            // Only the lowest five bits of a register count.
            for (int more : new int[] {0, 32, -32, 64, MIN}) {
                op(t, 0, 1, 0x80000003, by + more, 0x80000003 << by);
                op(t, 0, 5, 0x80000003, by + more, 0x80000003 >>> by);
                op(t, 32, 5, 0x80000003, by + more, 0x80000003 >> by);
                op(t, 32, 5, 0x40000003, by + more, 0x40000003 >> by);
            }
            immediate(t, 1, 0x80000003, by, 0x80000003 << by);
            immediate(t, 5, 0x80000003, by, 0x80000003 >>> by);
            immediate(t, 5, 0x80000003, 32 << 5 | by, 0x80000003 >> by);
            immediate(t, 5, 0x40000003, 32 << 5 | by, 0x40000003 >> by);
        }
    }

    private static void bits(Tests t) {
        t.says("OP and OP-IMM,");
        op(t, 0, 4, -1, 0, -1);
        op(t, 0, 4, -1, -1, 0);
        op(t, 0, 4, 0x0F0F0F0F, 0x00FF00FF, 0x0FF00FF0);
        op(t, 0, 6, 0, 0, 0);
        op(t, 0, 6, MIN, 1, MIN + 1);
        op(t, 0, 7, -1, MIN, MIN);
        op(t, 0, 7, MAX, MIN, 0);
    }

    private static void immediates(Tests t) {
        t.says("OP-IMM,");
        for (int by : new int[] {-2048, -2047, -1, 0, 1, 2046, 2047}) {
            for (int a : new int[] {0, MIN, MAX, -1, by, by - 1, by + 1}) {
                immediate(t, 0, a, by, a + by);
                immediate(t, 2, a, by, a < by ? 1 : 0);
                immediate(t, 3, a, by, Integer.toUnsignedLong(a) < Integer.toUnsignedLong(by) ? 1 : 0);
                immediate(t, 4, a, by, a ^ by);
                immediate(t, 6, a, by, a | by);
                immediate(t, 7, a, by, a & by);
            }
        }
    }

    private static void noSuch(Tests t) {
        t.says("An instruction that is none here: 2 (VALUE it).");
        for (int number : new int[] {1, 16, 31, 33, 64, 96, 127}) {
            for (int function = 0; function < 8; function++) {
                none(t, Code.op(number, function, 5, 6, 6));
            }
            none(t, Code.immediate(1, 5, 6, number << 5));
            none(t, Code.immediate(5, 5, 6, number << 5));
        }
        for (int function = 1; function < 8; function++) {
            if (function != 5) {
                none(t, Code.op(32, function, 5, 6, 6));
            }
        }
        none(t, Code.immediate(1, 5, 6, 32 << 5));
    }

    private static void none(Tests t, int code) {
        new Bench(t, code).number(5, 77).run(1).dueTrap("none", 2, code, 0).dueNumber("nothing done", 5, 77);
    }

    private static void uppers(Tests t) {
        t.says("LUI, AUIPC (PCC MOVED by as much),");
        for (int upper : new int[] {0, 1, 0x7FFFF, 0x80000, 0xFFFFF}) {
            new Bench(t, Code.lui(5, upper)).run(1).dueNumber("LUI " + upper, 5, upper << 12);
        }
        // PCC has 16384 bytes at 0, which can be told from 8192 before them to 57343 behind their first.
        auipc(t, 0, true);
        auipc(t, 13, true);
        auipc(t, 14, false);
        auipc(t, 0xFFFFE, true);
        auipc(t, 0xFFFFD, false);
        auipc(t, 0x7FFFF, false);
        auipc(t, 0x80000, false);
        Bench last = new Bench(t, Code.jal(0, 4092)).run(1);
        last.core.word(1023, Code.auipc(5, 13));
        last.run(1).dueCap("AUIPC from 4092", 5, true, 57340, 0, 16384);
    }

    private static void auipc(Tests t, int upper, boolean tag) {
        Bench b = new Bench(t, Code.auipc(5, upper)).run(1).dueNoTrap("AUIPC " + upper, 4).dueKind("AUIPC", 5, 4095, 15);
        t.due("AUIPC " + upper + ": TAG", b.core.told(5, 0), tag ? 1 : 0);
        t.due("AUIPC " + upper + ": ADDRESS", b.address(5), upper << 12);
        t.due("AUIPC " + upper + ": BASE", b.core.told(5, 3) == 0 ? 1 : 0, tag ? 1 : 0);
    }

    private static void others(Tests t) {
        t.says("FENCE (nothing), ECALL (TRAP 11, VALUE 0), EBREAK (3, 0);");
        new Bench(t, Code.FENCE).run(1).dueNoTrap("FENCE", 4);
        new Bench(t, 0x0FF0000F).run(1).dueNoTrap("FENCE of all", 4);
        int[] three = {Code.csr(5, 0, Code.VALUE, 31), Code.ECALL};
        new Bench(t, three).run(2).dueTrap("ECALL, and VALUE was 31", 11, 0, 4);
        int[] four = {Code.csr(5, 0, Code.VALUE, 31), Code.EBREAK};
        new Bench(t, four).run(2).dueTrap("EBREAK, and VALUE was 31", 3, 0, 4);
        none(t, 0x00200073);
        none(t, 0x00000073 | 1 << 7);
        none(t, 0x00000073 | 1 << 15);
        none(t, 0x00100073 | 1 << 7);
        none(t, 0x00100073 | 1 << 15);
        none(t, 0x00000073 | 4 << 12);
    }
}
