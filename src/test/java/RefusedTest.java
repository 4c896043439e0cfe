/** Each call that is refused: what it throws, at the edge and beyond it, and that it changes nothing. */
public final class RefusedTest {
    private static final int MIN = Integer.MIN_VALUE;
    private static final int MAX = Integer.MAX_VALUE;
    private static final Class<IndexOutOfBoundsException> NONE = IndexOutOfBoundsException.class;
    private static final Class<IllegalArgumentException> WRONG = IllegalArgumentException.class;
    private static final Class<IllegalStateException> STATE = IllegalStateException.class;
    private static final int[] NO_WORDS = {-1, 4096, 4097, 8191, 8192, -4096, MIN, MAX};

    public static void main(String[] args) {
        Tests t = new Tests("refused calls");
        for (int k = 0; k < 4; k++) {
            word(t, k);
            memory(t, k);
            rootRegisters(t, k);
            rootLengths(t, k);
            rootSums(t, k);
            rootPerms(t, k);
            put(t, k);
            run(t, k);
            toldRegisters(t, k);
            toldWhats(t, k);
            count(t, k);
            pack(t, k);
            all(t, k);
        }
        ninth(t);
        halted(t);
        t.end();
    }

    /** A new object, a busy one, one with all ROOTS, one that is HALTED. */
    private static Twins twins(Tests t, int k) {
        return k == 0 ? Twins.made(t) : k == 1 ? Twins.busy(t) : k == 2 ? Twins.full(t) : Twins.halted(t);
    }

    private static void word(Tests t, int k) {
        t.says("IndexOutOfBoundsException if there is no WORD i.");
        Twins two = twins(t, k);
        for (int i : NO_WORDS) {
            two.refused("word(" + i + ")", NONE, core -> core.word(i, 99));
        }
        two.alike();
    }

    private static void memory(Tests t, int k) {
        t.says("Whether WORD i stands in a CAPABILITY with a TAG. IndexOutOfBoundsException if there is none.");
        Twins two = twins(t, k);
        for (int i : NO_WORDS) {
            two.refused("tag(" + i + ")", NONE, core -> core.tag(i) ? 1 : 0);
        }
        t.says("WORD i. IndexOutOfBoundsException if there is none.");
        for (int i : NO_WORDS) {
            two.refused("memory(" + i + ")", NONE, core -> core.memory(i));
        }
        two.alike();
    }

    private static void rootRegisters(Tests t, int k) {
        t.says("IndexOutOfBoundsException if there is no such register; IllegalArgumentException if length is below 0,");
        Twins two = twins(t, k);
        for (int r : new int[] {0, 37, -1, 38, 64, MIN, MAX}) {
            two.refused("root(" + r + ")", NONE, core -> core.root(r, 8, 8, 1));
            two.refused("root(" + r + "), all else wrong too", NONE, core -> core.root(r, -1, -1, -1));
        }
        two.alike();
    }

    private static void rootLengths(Tests t, int k) {
        t.says("IllegalArgumentException if length is below 0,");
        Twins two = twins(t, k);
        for (int r = 1; r < 37; r += 5) {
            int register = r;
            two.refused("length -1", WRONG, core -> core.root(register, 0, -1, 1));
            two.refused("length -1 at the end", WRONG, core -> core.root(register, -1, -1, 1));
            two.refused("the least length", WRONG, core -> core.root(register, MAX, MIN, 1));
        }
        two.alike();
    }

    private static void rootSums(Tests t, int k) {
        t.says("base and length (base without sign) beyond 2^32,");
        Twins two = twins(t, k);
        two.refused("2 at -1", WRONG, core -> core.root(1, -1, 2, 1));
        two.refused("17 at -16", WRONG, core -> core.root(32, -16, 17, 1));
        two.refused("the most at -1", WRONG, core -> core.root(1, -1, MAX, 1));
        two.refused("the most at 2^31 + 2", WRONG, core -> core.root(36, MIN + 2, MAX, 1));
        two.alike();
    }

    private static void rootPerms(Tests t, int k) {
        t.says("or perms not 0 to 4095;");
        Twins two = twins(t, k);
        for (int perms : new int[] {-1, 4096, 4097, 8191, MIN, MAX}) {
            two.refused("perms " + perms, WRONG, core -> core.root(1, 0, 8, perms));
            two.refused("perms " + perms + " of PCC", WRONG, core -> core.root(32, 0, 8, perms));
        }
        two.alike();
    }

    private static void ninth(Tests t) {
        t.says("IllegalStateException if there are 8.");
        Twins two = Twins.full(t);
        for (int r = 1; r < 37; r++) {
            int register = r;
            two.refused("a ninth in " + r, STATE, core -> core.root(register, 64, 8, 1));
        }
        two.refused("a ninth of nothing", STATE, core -> core.root(1, 0, 0, 0));
        two.alike();
        // The one before it is not refused, and those that were refused do not count.
        CheriCore core = new CheriCore();
        for (int i = 0; i < 8; i++) {
            t.due("ROOTS", core.count(5), i);
            t.refused("one that is wrong", WRONG, () -> core.root(1, 0, 8, 4096));
            t.due("root " + i, core.root(1, 64 * i, 8, 1), 64 * i);
        }
        t.refused("the ninth", STATE, () -> core.root(1, 0, 8, 1));
        t.due("ROOTS", core.count(5), 8);
        t.due("register 1", core.told(1, 1), 64 * 7);
    }

    private static void put(Tests t, int k) {
        t.says("Register r (1 to 31) becomes ADDRESS, META as it is told, no TAG. IndexOutOfBoundsException if there is"
            + " none.");
        Twins two = twins(t, k);
        for (int r : new int[] {0, 32, 33, 34, 35, 36, 37, -1, MIN, MAX}) {
            two.refused("put(" + r + ")", NONE, core -> Twins.put(core, r, 5, 6));
        }
        two.alike();
    }

    private static void run(Tests t, int k) {
        t.says("IllegalArgumentException for another n;");
        Twins two = twins(t, k);
        for (int n : new int[] {0, 10001, -1, -10000, 10002, MIN, MAX}) {
            two.refused("run(" + n + ")", WRONG, core -> core.run(n));
        }
        two.alike();
    }

    private static void halted(Tests t) {
        t.says("IllegalStateException if it is HALTED.");
        Twins two = Twins.halted(t);
        for (int n : new int[] {1, 2, 9999, 10000}) {
            two.refused("run(" + n + ")", STATE, core -> core.run(n));
        }
        two.alike();
        // Before it is HALTED it is not refused.
        CheriCore core = new CheriCore();
        core.root(32, 0, 64, 4095);
        core.word(0, Code.NOP);
        t.due("not HALTED", core.run(1), 1);
        t.due("HALTED by this one", core.run(1), 1);
        t.refused("HALTED", STATE, () -> core.run(1));
    }

    private static void toldRegisters(Tests t, int k) {
        t.says("IndexOutOfBoundsException if there is no register r;");
        Twins two = twins(t, k);
        for (int r : new int[] {-1, 37, 38, 64, MIN, MAX}) {
            for (int what = 0; what < 7; what++) {
                int asked = what;
                two.refused("told(" + r + ", " + what + ")", NONE, core -> core.told(r, asked));
            }
        }
        two.alike();
    }

    private static void toldWhats(Tests t, int k) {
        t.says("6: TYPE. IndexOutOfBoundsException if there is no register r; IllegalArgumentException for others.");
        Twins two = twins(t, k);
        for (int what : new int[] {-1, 7, 8, MIN, MAX}) {
            for (int r = 0; r < 37; r += 4) {
                int register = r;
                two.refused("told(" + r + ", " + what + ")", WRONG, core -> core.told(register, what));
            }
        }
        two.alike();
    }

    private static void count(Tests t, int k) {
        t.says("6: TAGS in MEMORY. IllegalArgumentException for others.");
        Twins two = twins(t, k);
        for (int what : new int[] {-1, 7, 8, MIN, MAX}) {
            two.refused("count(" + what + ")", WRONG, core -> core.count(what));
        }
        two.alike();
    }

    private static void pack(Tests t, int k) {
        t.says("IllegalArgumentException if length is below 0, or base (without sign) and length beyond 2^32.");
        Twins two = twins(t, k);
        for (int base : new int[] {0, 1, MAX, MIN, -1}) {
            long rest = (1L << 32) - Integer.toUnsignedLong(base);
            for (long length : new long[] {-1, -rest, Long.MIN_VALUE, rest + 1, rest + (1L << 32), Long.MAX_VALUE}) {
                two.refused("pack(" + base + ", " + length + ")", WRONG, core -> core.pack(base, length));
            }
        }
        two.alike();
    }

    /** One of each, one behind the other. */
    private static void all(Tests t, int k) {
        t.says("A call that throws changes nothing but what is said there.");
        Twins two = twins(t, k);
        two.refused("word", NONE, core -> core.word(4096, 1));
        two.refused("root", NONE, core -> core.root(37, 0, 0, 0));
        two.refused("root", WRONG, core -> core.root(1, 0, 8, 4096));
        two.refused("put", NONE, core -> Twins.put(core, 32, 1, 1));
        two.refused("run", WRONG, core -> core.run(0));
        two.refused("told", NONE, core -> core.told(37, 0));
        two.refused("told", WRONG, core -> core.told(0, 7));
        two.refused("memory", NONE, core -> core.memory(4096));
        two.refused("tag", NONE, core -> core.tag(4096) ? 1 : 0);
        two.refused("count", WRONG, core -> core.count(7));
        two.refused("pack", WRONG, core -> core.pack(0, -1));
        two.alike();
    }
}
