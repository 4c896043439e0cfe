/** Instructions as words, for tests that write programs. */
final class Code {
    static final int ECALL = 0x73;
    static final int EBREAK = 0x100073;
    static final int MRET = 0x30200073;
    static final int FENCE = 0x0F;
    static final int NOP = 0x13;
    static final int CAUSE = 0x342;
    static final int VALUE = 0x343;

    private Code() {
    }

    /** Any instruction of two registers: bits 25 to 31, then rs2, rs1, function, rd, opcode. */
    static int r(int number, int rs2, int rs1, int function, int rd, int opcode) {
        return number << 25 | rs2 << 20 | rs1 << 15 | function << 12 | rd << 7 | opcode;
    }

    static int i(int immediate, int rs1, int function, int rd, int opcode) {
        return immediate << 20 | rs1 << 15 | function << 12 | rd << 7 | opcode;
    }

    static int lui(int rd, int upper) {
        return upper << 12 | rd << 7 | 0x37;
    }

    static int auipc(int rd, int upper) {
        return upper << 12 | rd << 7 | 0x17;
    }

    static int jal(int rd, int by) {
        return by >>> 20 << 31 | (by >>> 1 & 0x3FF) << 21 | (by >>> 11 & 1) << 20 | (by >>> 12 & 0xFF) << 12
            | rd << 7 | 0x6F;
    }

    static int jalr(int rd, int rs1, int by) {
        return i(by, rs1, 0, rd, 0x67);
    }

    static int branch(int function, int rs1, int rs2, int by) {
        return by >>> 12 << 31 | (by >>> 5 & 0x3F) << 25 | rs2 << 20 | rs1 << 15 | function << 12
            | (by >>> 1 & 0xF) << 8 | (by >>> 11 & 1) << 7 | 0x63;
    }

    static int addi(int rd, int rs1, int by) {
        return i(by, rs1, 0, rd, 0x13);
    }

    static int immediate(int function, int rd, int rs1, int by) {
        return i(by, rs1, function, rd, 0x13);
    }

    static int op(int number, int function, int rd, int rs1, int rs2) {
        return r(number, rs2, rs1, function, rd, 0x33);
    }

    static int load(int function, int rd, int rs1, int by) {
        return i(by, rs1, function, rd, 0x03);
    }

    static int store(int function, int rs2, int rs1, int by) {
        return r(by >>> 5 & 127, rs2, rs1, function, by & 31, 0x23);
    }

    static int csr(int function, int rd, int number, int rs1) {
        return i(number, rs1, function, rd, 0x73);
    }

    static int cap(int number, int rd, int rs1, int rs2) {
        return r(number, rs2, rs1, 0, rd, 0x5B);
    }

    static int inspect(int what, int rd, int rs1) {
        return cap(127, rd, rs1, what);
    }

    static int incOffset(int rd, int rs1, int by) {
        return i(by, rs1, 1, rd, 0x5B);
    }

    static int setBounds(int rd, int rs1, int length) {
        return i(length, rs1, 2, rd, 0x5B);
    }

    static int special(int rd, int number, int rs1) {
        return cap(1, rd, rs1, number);
    }

    static int invoke(int rs1, int rs2) {
        return cap(126, 1, rs1, rs2);
    }
}
