/** Promise 5: RV32I without jumps, loads and stores. */
public final class BaseInstructionTest {
    private static final int MIN = Integer.MIN_VALUE;

    public static void main(String[] args) {
        Tests t = new Tests("promise 5: OP, OP-IMM, LUI, AUIPC, FENCE");
        operations(t);
        immediates(t);
        uppers(t);
        others(t);
        t.end();
    }

    private static void op(Tests t, int number, int function, int a, int b, int due) {
        String what = "op " + number + "/" + function + " of " + a + ", " + b;
        Bench bench = new Bench(t, Code.op(number, function, 7, 5, 6), Code.op(number, function, 0, 5, 6));
        bench.number(5, a).number(6, b).run(2);
        bench.dueNoTrap(what, 8).dueNumber(what, 7, due).dueNumber("register 0", 0, 0);
    }

    private static void operations(Tests t) {
        op(t, 0, 0, Integer.MAX_VALUE, 1, MIN);
        op(t, 32, 0, MIN, 1, Integer.MAX_VALUE);
        op(t, 0, 1, 3, 33, 6);
        op(t, 0, 1, 1, 31, MIN);
        op(t, 0, 2, -1, 0, 1);
        op(t, 0, 2, 0, -1, 0);
        op(t, 0, 2, 4, 4, 0);
        op(t, 0, 3, -1, 0, 0);
        op(t, 0, 3, 0, -1, 1);
        op(t, 0, 4, 12, 10, 6);
        op(t, 0, 5, -8, 1, Integer.MAX_VALUE - 3);
        op(t, 0, 5, -8, 32, -8);
        op(t, 32, 5, -8, 1, -4);
        op(t, 32, 5, -8, -1, -1);
        op(t, 0, 6, 12, 10, 14);
        op(t, 0, 7, 12, 10, 8);
        for (int number = 1; number < 128; number++) {
            for (int function = 0; function < 8; function++) {
                if (number != 32 || function != 0 && function != 5) {
                    illegal(t, Code.op(number, function, 7, 5, 6));
                }
            }
        }
    }

    private static void immediate(Tests t, int function, int a, int by, int due) {
        String what = "immediate " + function + " of " + a + ", " + by;
        Bench bench = new Bench(t, Code.immediate(function, 5, 5, by)).number(5, a).run(1);
        bench.dueNoTrap(what, 4).dueNumber(what, 5, due);
    }

    private static void immediates(Tests t) {
        immediate(t, 0, 5, -2048, -2043);
        immediate(t, 0, 5, 2047, 2052);
        immediate(t, 1, 5, 31, MIN);
        immediate(t, 2, -3, -2, 1);
        immediate(t, 2, -2, -2, 0);
        immediate(t, 3, 7, -1, 1);
        immediate(t, 3, -1, -1, 0);
        immediate(t, 3, 0, 1, 1);
        immediate(t, 4, 5, -1, -6);
        immediate(t, 5, -1, 31, 1);
        immediate(t, 5, -16, 32 << 5 | 2, -4);
        immediate(t, 6, 0x1000, 0x7F, 0x107F);
        immediate(t, 7, -1, -2048, -2048);
        for (int number = 1; number < 128; number++) {
            illegal(t, Code.immediate(1, 5, 5, number << 5 | 3));
            if (number != 32) {
                illegal(t, Code.immediate(5, 5, 5, number << 5 | 3));
            }
        }
    }

    private static void uppers(Tests t) {
        Bench b = new Bench(t, Code.lui(5, 0xFFFFF), Code.auipc(6, 1), Code.auipc(7, 4), Code.auipc(8, 0x80000));
        b.run(4).dueNumber("LUI", 5, -4096);
        b.dueCap("AUIPC", 6, true, 4096 + 4, 0, 16384);
        b.dueKind("AUIPC", 6, 4095, 15);
        // 16384 bytes are 64 of 2^8: 2^(8 + 8) is cut at its eighths from 7/8 on.
        b.dueCap("AUIPC out of bounds", 7, true, 16384 + 8, 0, 16384);
        t.due("AUIPC far out of bounds", b.core.told(8, 0), 0);
        t.due("where that is", b.core.told(8, 1), MIN + 12);
    }

    private static void others(Tests t) {
        Bench b = new Bench(t, Code.FENCE, 0x0FF0000F, 0x8330000F | 5 << 7 | 6 << 15);
        b.number(5, 17).run(3).dueNoTrap("fences", 12).dueNumber("what a fence leaves", 5, 17);
        for (int function = 1; function < 8; function++) {
            illegal(t, Code.FENCE | function << 12);
        }
        boolean[] known = new boolean[128];
        for (int opcode : new int[] {0x03, 0x0F, 0x13, 0x17, 0x23, 0x33, 0x37, 0x5B, 0x63, 0x67, 0x6F, 0x73}) {
            known[opcode] = true;
        }
        for (int opcode = 0; opcode < 128; opcode++) {
            if (!known[opcode]) {
                illegal(t, opcode);
                illegal(t, -128 | opcode);
            }
        }
    }

    private static void illegal(Tests t, int instruction) {
        Bench b = new Bench(t, instruction).number(5, 1).number(6, 2).number(7, 3).run(1);
        b.dueTrap("illegal " + Integer.toHexString(instruction), 2, instruction, 0);
        t.due("register 5", b.address(5), 1);
        t.due("register 7", b.address(7), 3);
    }
}
