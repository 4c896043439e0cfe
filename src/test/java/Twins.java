/**
 * Two objects to which the same was done, but for calls that one of them refused: "A call that throws changes nothing
 * but what is said there", so both must answer alike, then and when they go on.
 */
final class Twins {
    /** A call of one of the two. */
    interface Ask {
        long of(CheriCore core);
    }

    private static final int CODE = 64;
    private static final int DATA = 8192;
    private static final int[] NOTED = {0, 1, 2, 16, 17, 18, 19, 20, 21, 22, 2046, 2047, 2048, 2049, 2050, 2051, 2052,
        2053, 3072, 3073, 4094, 4095};

    private final Tests t;
    private final CheriCore tried = new CheriCore();
    private final CheriCore left = new CheriCore();

    private Twins(Tests t) {
        this.t = t;
    }

    /** New objects. */
    static Twins made(Tests t) {
        return new Twins(t);
    }

    /** In the midst of a program: TAGS in MEMORY, a trap taken, two instructions taken in behind PCC. */
    static Twins busy(Tests t) {
        Twins two = new Twins(t);
        int[] code = {Code.store(3, 1, 1, 0), Code.store(3, 1, 1, 16), Code.ECALL, Code.addi(5, 5, 1),
            Code.load(3, 6, 1, 0), Code.incOffset(1, 1, 8), Code.jal(0, -12)};
        for (int i = 0; i < code.length; i++) {
            int at = CODE / 4 + i;
            int w = code[i];
            two.both("word", core -> core.word(at, w));
        }
        two.both("handler", core -> core.word(Bench.TRAPS / 4, Code.special(7, 31, 0)));
        two.both("handler", core -> core.word(Bench.TRAPS / 4 + 1, Code.incOffset(7, 7, 4)));
        two.both("handler", core -> core.word(Bench.TRAPS / 4 + 2, Code.special(0, 31, 7)));
        two.both("handler", core -> core.word(Bench.TRAPS / 4 + 3, Code.MRET));
        two.both("ends of MEMORY", core -> core.word(0, 11) + core.word(4095, 12));
        two.both("PCC", core -> core.root(32, CODE, 64, 4095));
        two.both("MTCC", core -> core.root(33, Bench.TRAPS, 64, Bench.RUN | Bench.SYSTEM));
        two.both("data", core -> core.root(1, DATA, 256, 4095));
        two.both("a number", core -> put(core, 4, -7, 0x123));
        two.both("run", core -> core.run(9));
        return two;
    }

    /** As many ROOTS as there can be. */
    static Twins full(Tests t) {
        Twins two = busy(t);
        for (int r = 10; r < 15; r++) {
            int register = r;
            two.both("root", core -> core.root(register, 64 * register, 16, register));
        }
        return two;
    }

    /** HALTED by its second STEP, with an instruction that could be gone on with. */
    static Twins halted(Tests t) {
        Twins two = new Twins(t);
        two.both("word", core -> core.word(0, Code.NOP));
        two.both("word", core -> core.word(1, Code.EBREAK));
        two.both("PCC", core -> core.root(32, 0, 64, 4095));
        two.both("run", core -> core.run(7));
        return two;
    }

    static long put(CheriCore core, int r, int address, int meta) {
        core.put(r, address, meta);
        return 0;
    }

    Twins both(String what, Ask ask) {
        t.due(what + ", of both", ask.of(tried), ask.of(left));
        return this;
    }

    Twins refused(String what, Class<? extends RuntimeException> kind, Ask ask) {
        t.refused(what, kind, () -> ask.of(tried));
        return this;
    }

    /** They answer alike, go on alike if they can, and answer alike behind that. */
    void alike() {
        look();
        if (tried.count(0) == 0) {
            both("run on", core -> core.run(5));
            look();
        }
    }

    /** All but what follows from META and ADDRESS, and of MEMORY what this program comes to. */
    private void look() {
        for (int r = 0; r < 37; r++) {
            for (int what = 0; what < 3; what++) {
                t.due("told(" + r + ", " + what + ") of both", tried.told(r, what), left.told(r, what));
            }
        }
        for (int what = 0; what < 7; what++) {
            t.due("count(" + what + ") of both", tried.count(what), left.count(what));
        }
        for (int i : NOTED) {
            t.due("memory(" + i + ") of both", tried.memory(i), left.memory(i));
            t.isTrue("tag(" + i + ") of both", tried.tag(i) == left.tag(i));
        }
        t.due("grown()", tried.grown(), 0);
        t.due("check()", tried.check(), 0);
    }
}
