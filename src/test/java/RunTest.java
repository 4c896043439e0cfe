/** Promise 5: how many steps, what is refused, and traps and halts themselves. */
public final class RunTest {
    public static void main(String[] args) {
        Tests t = new Tests("promise 5: run");
        steps(t);
        fetches(t);
        halts(t);
        endOfBounds(t);
        t.end();
    }

    private static void steps(Tests t) {
        Bench b = new Bench(t, Code.addi(5, 5, 1), Code.jal(0, -4));
        for (int n : new int[] {0, -1, 10001, Integer.MAX_VALUE, Integer.MIN_VALUE}) {
            t.refused("run(" + n + ")", IllegalArgumentException.class, () -> b.core.run(n));
        }
        t.due("steps after what was refused", b.core.count(3), 0);
        b.run(1).run(10000);
        t.due("steps", b.core.count(3), 10001);
        b.dueNumber("a loop of two", 5, 5001);
    }

    /** What PCC must be before an instruction is done: each of the document's reasons, in their order. */
    private static void fetches(Tests t) {
        fetch(t, 4095 - Bench.RUN, 0, 28, 1024 + 17);
        fetch(t, 4095, 2, 0, 2);
        fetch(t, 4095, 16384, 1, 16384);
        fetch(t, 4095, 16386, 0, 16386);
        fetch(t, 4095, -4, 1, -4);
        // A PCC that was moved out of its own bounds.
        Bench b = new Bench(t, Code.NOP, Code.NOP, Code.NOP);
        b.root(32, 0, 10, 4095).run(2);
        b.dueNoTrap("two of ten bytes", 8).run(1).dueTrap("two bytes more", 28, 1025, 8);
        // A gate as PCC: not open.
        Bench g = new Bench(t, Code.inspect(17, 5, 1), Code.special(0, 31, 5), Code.MRET, Code.NOP);
        g.root(1, 12, 8, 4095).run(3);
        g.dueNoTrap("a gate is opened by MRET", 12);
        // MTCC that is a gate cannot be gone on from.
        Bench m = new Bench(t, Code.inspect(17, 5, 1), Code.special(0, 28, 5), Code.ECALL);
        m.root(1, Bench.TRAPS, 8, 4095);
        t.due("until halted", m.core.run(9), 3);
        t.due("halted", m.core.count(0), 1);
        t.due("type of PCC", m.core.told(32, 6), 14);
    }

    private static void fetch(Tests t, int perms, int at, int cause, int value) {
        Bench b = new Bench(t);
        b.root(32, at, 4, perms).run(1).dueTrap("fetch at " + at, cause, value, at);
        t.due("PERMS of MEPCC", b.core.told(36, 5), perms);
        t.due("PCC is MTCC", b.core.told(32, 2), b.core.told(33, 2));
    }

    private static void halts(Tests t) {
        halt(t, "NULL", 0, 0, -1);
        halt(t, "no RUN", Bench.TRAPS, 64, Bench.LOAD);
        halt(t, "too short", Bench.TRAPS, 3, Bench.RUN);
        halt(t, "no multiple", Bench.TRAPS + 2, 64, Bench.RUN);
        halt(t, "beyond memory", 16384, 64, Bench.RUN);
        CheriCore core = new CheriCore();
        core.run(1);
        t.refused("run when halted", IllegalStateException.class, () -> core.run(1));
        t.refused("run of 0 when halted", IllegalArgumentException.class, () -> core.run(0));
        core.root(32, 0, 16, 4095);
        core.root(33, 0, 16, 4095);
        t.due("still halted", core.count(0), 1);
        t.refused("run with another PCC", IllegalStateException.class, () -> core.run(1));
        t.due("steps", core.count(3), 1);
    }

    private static void halt(Tests t, String what, int base, int length, int perms) {
        CheriCore core = new CheriCore();
        core.root(32, 0, 64, 4095);
        if (perms >= 0) {
            core.root(33, base, length, perms);
        }
        core.word(0, Code.NOP);
        core.word(1, Code.EBREAK);
        t.due(what + ": steps", core.run(10), 2);
        t.due(what + ": halted", core.count(0), 1);
        t.due(what + ": cause", core.count(1), 3);
        t.due(what + ": value", core.count(2), 0);
        t.due(what + ": MEPCC", core.told(36, 1), 4);
        t.due(what + ": PCC", core.told(32, 1), base);
    }

    /** PCC runs to the end of memory and on: first within its bounds, then without. */
    private static void endOfBounds(Tests t) {
        Bench b = new Bench(t);
        b.core.word(4094, Code.NOP);
        b.core.word(4095, Code.NOP);
        b.root(32, 16376, 8, 4095).run(2).dueNoTrap("the last words", 16384);
        b.run(1).dueTrap("behind them", 28, 1025, 16384);
        Bench w = new Bench(t);
        w.core.word(4095, Code.NOP);
        w.root(32, 16380, 60, 4095).run(2).dueTrap("behind memory", 1, 16384, 16384);
    }
}
