/** Promise 12. */
public final class GrownTest {
    public static void main(String[] args) {
        Tests t = new Tests("promise 12");
        none(t);
        rootsThatAreGone(t);
        attempts(t);
        if (Inside.isOurs(new CheriCore())) {
            counted(t);
        }
        t.end();
    }

    private static void none(Tests t) {
        CheriCore core = new CheriCore();
        t.due("nothing at all", core.grown(), 0);
        core.put(5, 0, -1);
        t.due("no TAG", core.grown(), 0);
    }

    /** A root counts even when its register has become another. */
    private static void rootsThatAreGone(Tests t) {
        Bench b = new Bench(t, Code.store(3, 1, 1, 0), Code.inspect(10, 5, 1), Code.addi(1, 0, 0));
        b.root(1, 8192, 64, 4095).run(3);
        t.due("register 1 is a number", b.core.told(1, 0), 0);
        t.due("parts of a root that is gone", b.core.grown(), 0);
    }

    /** Each program tries to get more than its root has. */
    private static void attempts(Tests t) {
        int[][] programs = {
            {Code.setBounds(5, 1, 65), Code.setBounds(5, 1, 4095)},
            {Code.incOffset(5, 1, -8), Code.setBounds(5, 5, 16), Code.cap(9, 6, 5, 2)},
            {Code.inspect(23, 5, 1), Code.immediate(4, 5, 5, -1), Code.cap(22, 5, 1, 5), Code.cap(29, 6, 1, 5)},
            {Code.store(3, 1, 1, 0), Code.store(2, 2, 1, 4), Code.load(3, 5, 1, 0)},
            {Code.store(3, 1, 1, 0), Code.store(0, 2, 1, 0), Code.load(3, 5, 1, 0)},
            {Code.incOffset(5, 1, 2047), Code.incOffset(5, 5, 2047), Code.inspect(17, 6, 5)},
            {Code.cap(11, 5, 1, 3), Code.incOffset(5, 5, 4), Code.cap(12, 6, 5, 3)},
            {Code.auipc(5, 0x80000), Code.inspect(17, 6, 5), Code.special(0, 28, 5)},
            {Code.jal(5, 4), Code.incOffset(6, 5, 4), Code.setBounds(7, 5, 4095)},
            {Code.cap(13, 5, 1, 2), Code.cap(29, 6, 5, 1), Code.cap(29, 7, 1, 5)}};
        for (int k = 0; k < programs.length; k++) {
            Bench b = new Bench(t, programs[k]).root(1, 8192, 64, 0x8FD).root(3, 0, 16, 0x281).number(2, -1);
            for (int i = 0; i < programs[k].length; i++) {
                b.run(1);
                t.due("attempt " + k + ", step " + i, b.core.grown(), 0);
            }
            b.dueNoTrap("attempt " + k, 4 * programs[k].length);
        }
    }

    /** That it would be seen: a register and a word get what no program can. */
    private static void counted(Tests t) {
        Bench b = new Bench(t, Code.store(3, 1, 1, 0)).root(1, 8192, 64, 0x8FD).root(8, 65536, 64, 0x8FD).run(1);
        Object registers = Inside.of(b.core, "state", "registers");
        b.core.put(5, 0, 0);
        Inside.set(java.lang.reflect.Array.get(registers, 5), "tagged", true);
        t.due("a whole space", b.core.grown(), 1);
        Object sixth = java.lang.reflect.Array.get(registers, 6);
        b.core.put(6, 65536, b.core.told(8, 2));
        Inside.set(sixth, "tagged", true);
        t.due("just a root", b.core.grown(), 1);
        b.core.put(6, 65536, b.core.told(8, 2) ^ 1 << 21);
        Inside.set(sixth, "tagged", true);
        t.due("a PERM more", b.core.grown(), 2);
        int[] cached = (int[]) Inside.of(b.core, "state", "memory", "cached");
        for (int i = 0; i < cached.length; i++) {
            if (cached[i] == 8192) {
                cached[i] = 1 << 20;
            }
        }
        t.due("an ADDRESS in memory", b.core.grown(), 3);
    }
}
