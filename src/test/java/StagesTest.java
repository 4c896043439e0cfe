/** Promise 5 and 2: an instruction that was written just now is the one that is done, whatever was taken in early. */
public final class StagesTest {
    public static void main(String[] args) {
        Tests t = new Tests("promise 5: stages");
        for (int ahead = 1; ahead < 6; ahead++) {
            storedAhead(t, ahead);
            storedByByte(t, ahead);
            writtenFromOutside(t, ahead);
        }
        storedAsCapability(t);
        lastWords(t);
        loopThatChangesItself(t);
        jumps(t);
        t.end();
    }

    private static int[] numbered() {
        int[] code = new int[12];
        for (int i = 0; i < code.length; i++) {
            code[i] = Code.addi(5, 0, 100 + i);
        }
        return code;
    }

    private static void storedAhead(Tests t, int ahead) {
        int[] code = numbered();
        code[2] = Code.store(2, 6, 1, 8 + 4 * ahead);
        Bench b = new Bench(t, code).root(1, 0, 16384, 4095).number(6, Code.addi(5, 0, 7)).run(2 + ahead);
        b.dueNumber("before", 5, ahead == 1 ? 101 : 100 + 1 + ahead);
        b.run(1).dueNumber("stored " + ahead + " ahead", 5, 7);
        b.run(1).dueNumber("behind it", 5, 103 + ahead);
        t.due("check()", b.core.check(), 0);
    }

    private static void storedByByte(Tests t, int ahead) {
        int[] code = numbered();
        code[2] = Code.store(0, 6, 1, 8 + 4 * ahead + 3);
        Bench b = new Bench(t, code).root(1, 0, 16384, 4095).number(6, 9).run(3 + ahead);
        b.dueNumber("a byte stored " + ahead + " ahead", 5, (102 + ahead & 15) + 0x90);
    }

    private static void writtenFromOutside(Tests t, int ahead) {
        Bench b = new Bench(t, numbered()).run(2);
        t.due("what it was", b.core.word(1 + ahead, Code.addi(5, 0, 7)), Code.addi(5, 0, 101 + ahead));
        b.run(ahead).dueNumber("written " + ahead + " ahead", 5, 7);
    }

    /** The words of a capability stand one and two behind the store: ADDRESS and META are instructions. */
    private static void storedAsCapability(Tests t) {
        int[] code = numbered();
        code[1] = Code.store(3, 6, 1, 8);
        Bench b = new Bench(t, code).root(1, 0, 16384, 4095);
        b.core.put(6, Code.addi(5, 0, 7), Code.addi(6, 0, 8));
        b.run(3).dueNumber("the lower four bytes", 5, 7).run(1).dueNumber("the upper four bytes", 6, 8);
        for (int ahead = 0; ahead < 6; ahead += 2) {
            int[] even = numbered();
            even[2] = Code.store(3, 6, 1, 8 + 4 * ahead);
            Bench e = new Bench(t, even).root(1, 0, 16384, 4095);
            e.core.put(6, Code.addi(5, 0, 7), Code.addi(7, 0, 8));
            e.run(4 + ahead).dueNumber("the upper four bytes, " + ahead + " ahead", 7, 8);
            e.dueNumber("the lower four bytes, " + ahead + " ahead", 5, ahead == 0 ? 101 : 7);
        }
    }

    /** There is nothing to take in behind the last word, which is what the one before it writes. */
    private static void lastWords(Tests t) {
        for (int function = 2; function < 4; function++) {
            Bench b = new Bench(t, Code.special(0, 31, 2), Code.MRET).root(1, 16376, 8, 4095).root(2, 16376, 8, 4095);
            b.core.word(4094, Code.store(function, 6, 1, function == 2 ? 4 : 0));
            b.core.word(4095, Code.addi(5, 0, 9));
            int last = Code.addi(5, 0, 7);
            b.core.put(6, function == 2 ? last : 0, last);
            b.run(4).dueNoTrap("the last word", 16384).dueNumber("the last word", 5, 7);
        }
    }

    private static void loopThatChangesItself(Tests t) {
        int[] code = {Code.addi(5, 5, 1), Code.load(2, 6, 1, 0), Code.op(0, 0, 6, 6, 7), Code.store(2, 6, 1, 0), Code.jal(0, -16)};
        Bench b = new Bench(t, code).root(1, 0, 16384, 4095).number(7, 1 << 20).run(5 * 20);
        b.dueNumber("1 and 2 and so on to 20", 5, 210);
        t.due("the instruction", b.core.memory(0), Code.addi(5, 5, 21));
    }

    private static void jumps(Tests t) {
        int[] code = numbered();
        code[1] = Code.jal(0, 16);
        code[6] = Code.branch(0, 0, 0, -16);
        new Bench(t, code).run(3).dueNumber("behind a jump", 5, 105).run(2).dueNumber("behind a branch back", 5, 102);
        int[] still = {Code.jal(0, 0)};
        new Bench(t, still).run(500).dueNoTrap("a jump to itself", 0);
    }
}
