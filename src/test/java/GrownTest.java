/** Promise 12. */
public final class GrownTest {
    public static void main(String[] args) {
        Tests t = new Tests("promise 12");
        none(t);
        rootsThatAreGone(t);
        attempts(t);
        if (Inside.isOurs(new CheriCore())) {
            counted(t);
        }
        t.end();
    }

    private static void none(Tests t) {
        CheriCore core = new CheriCore();
        t.due("nothing at all", core.grown(), 0);
        core.put(5, 0, -1);
        t.due("no TAG", core.grown(), 0);
    }

    /** A root counts even when its register has become another. */
    private static void rootsThatAreGone(Tests t) {
        Bench b = new Bench(t, Code.store(3, 1, 1, 0), Code.inspect(10, 5, 1), Code.addi(1, 0, 0));
        b.root(1, 8192, 64, 4095).run(3);
        t.due("register 1 is a number", b.core.told(1, 0), 0);
        t.due("parts of a root that is gone", b.core.grown(), 0);
    }

    /** Each program tries to get more than its root has. */
    private static void attempts(Tests t) {
        int[][] programs = {
            {Code.setBounds(5, 1, 65), Code.setBounds(5, 1, 4095)},
            {Code.incOffset(5, 1, -8), Code.setBounds(5, 5, 16), Code.cap(9, 6, 5, 2)},
            {Code.inspect(23, 5, 1), Code.immediate(4, 5, 5, -1), Code.cap(22, 5, 1, 5), Code.cap(29, 6, 1, 5)},
            {Code.store(3, 1, 1, 0), Code.store(2, 2, 1, 4), Code.load(3, 5, 1, 0)},
            {Code.store(3, 1, 1, 0), Code.store(0, 2, 1, 0), Code.load(3, 5, 1, 0)},
            {Code.incOffset(5, 1, 2047), Code.incOffset(5, 5, 2047), Code.inspect(17, 6, 5)},
            {Code.cap(11, 5, 1, 3), Code.incOffset(5, 5, 4), Code.cap(12, 6, 5, 3)},
            {Code.auipc(5, 0x80000), Code.inspect(17, 6, 5), Code.special(0, 28, 5)},
            {Code.jal(5, 4), Code.incOffset(6, 5, 4), Code.setBounds(7, 5, 4095)},
            {Code.cap(13, 5, 1, 2), Code.cap(29, 6, 5, 1), Code.cap(29, 7, 1, 5)}};
        for (int k = 0; k < programs.length; k++) {
            Bench b = new Bench(t, programs[k]).root(1, 8192, 64, 0x8FD).root(3, 0, 16, 0x281).number(2, -1);
            for (int i = 0; i < programs[k].length; i++) {
                b.run(1);
                t.due("attempt " + k + ", step " + i, b.core.grown(), 0);
            }
            b.dueNoTrap("attempt " + k, 4 * programs[k].length);
        }
    }

    /** That it would be seen: registers and words get what no program can get. */
    private static void counted(Tests t) {
        t.says("How many CAPABILITIES with a TAG (in registers and MEMORY) are not in the BOUNDS of one of the ROOTS");
        Bench b = new Bench(t, Code.store(3, 1, 1, 0)).root(1, 8192, 64, 0x8FD).root(8, 65536, 63, 0x8FD);
        b.root(9, 65536 + 63, 63, 0x8FD).root(10, 65536, 8, 0x8FF).run(1);
        t.due("nothing yet", b.core.grown(), 0);
        is(t, b, "just a root", 65536, 63, 0x8FD, 0);
        is(t, b, "a byte less", 65536, 62, 0x8FD, 0);
        is(t, b, "a byte less, from below", 65537, 62, 0x8FD, 0);
        is(t, b, "a byte more", 65535, 63, 0x8FD, 1);
        is(t, b, "a byte more, above", 65536 + 63, 63, 0x8FD, 0);
        is(t, b, "a byte beyond all", 65536 + 64, 63, 0x8FD, 1);
        is(t, b, "a part of two", 65536 + 60, 6, 0x8FD, 1);
        is(t, b, "nothing, at an end", 65536 + 126, 0, 0x8FD, 0);
        is(t, b, "nothing, beyond it", 65536 + 127, 0, 0x8FD, 1);
        t.says("with PERMS among its: always 0.");
        is(t, b, "no PERMS", 65536, 63, 0, 0);
        is(t, b, "a PERM more", 65536, 63, 0x8FF, 1);
        is(t, b, "a PERM instead", 65536, 63, 2, 1);
        is(t, b, "the PERM that a shorter one has", 65536, 8, 0x8FF, 0);
        is(t, b, "the PERM of one, the BOUNDS of the other", 65536, 9, 0x8FF, 1);
        inMemory(t, b);
    }

    /** Register 5 gets these BOUNDS and PERMS, and a TAG. */
    private static void is(Tests t, Bench b, String what, int base, int length, int perms, int due) {
        int meta = perms << 20 | 15 << 16 | b.core.pack(base, length) & 32767;
        b.core.put(5, base, meta ^ Bench.NULL_META);
        t.due(what + ", no TAG", b.core.grown(), 0);
        Inside.set(java.lang.reflect.Array.get(Inside.of(b.core, "state", "registers"), 5), "tagged", true);
        t.due(what, b.core.grown(), due);
        b.core.put(5, 0, 0);
    }

    private static void inMemory(Tests t, Bench b) {
        t.says("(in registers and MEMORY)");
        t.due("as it was stored", b.core.grown(), 0);
        int[] cached = (int[]) Inside.of(b.core, "state", "memory", "cached");
        for (int i = 0; i < cached.length; i++) {
            if (cached[i] == 8192) {
                cached[i] = 1 << 20;
            }
        }
        t.due("with another ADDRESS", b.core.grown(), 1);
        b.core.put(5, 0, 0);
        Inside.set(java.lang.reflect.Array.get(Inside.of(b.core, "state", "registers"), 5), "tagged", true);
        t.due("and a register", b.core.grown(), 2);
        b.core.word(2049, 0);
        t.due("a register alone", b.core.grown(), 1);
    }
}
