/** A CheriCore with a program at ADDRESS 0, all PERMS for PCC, and a place for traps to go to. */
final class Bench {
    static final int ALL = 4095;
    static final int GLOBAL = 1;
    static final int RUN = 2;
    static final int LOAD = 4;
    static final int STORE = 8;
    static final int LOADCAP = 16;
    static final int STORECAP = 32;
    static final int STORELOCAL = 64;
    static final int SEAL = 128;
    static final int INVOKE = 256;
    static final int UNSEAL = 512;
    static final int SYSTEM = 1024;
    static final int TRAPS = 12288;
    static final int NULL_META = 1000194;

    final CheriCore core = new CheriCore();
    private final Tests t;

    Bench(Tests t, int... code) {
        this(t, ALL, code);
    }

    Bench(Tests t, int permsOfPcc, int[] code) {
        this.t = t;
        core.root(32, 0, 16384, permsOfPcc);
        core.root(33, TRAPS, 64, RUN | SYSTEM);
        for (int i = 0; i < code.length; i++) {
            core.word(i, code[i]);
        }
        for (int i = 0; i < 16; i++) {
            core.word(TRAPS / 4 + i, Code.NOP);
        }
    }

    Bench root(int r, int base, int length, int perms) {
        core.root(r, base, length, perms);
        return this;
    }

    Bench number(int r, int n) {
        core.put(r, n, 0);
        return this;
    }

    Bench run(int n) {
        t.due("steps", core.run(n), n);
        return this;
    }

    int address(int r) {
        return core.told(r, 1);
    }

    /** A register that is a number, as the document says of numbers. */
    Bench dueNumber(String what, int r, int n) {
        t.due(what + ": number", core.told(r, 1), n);
        t.due(what + ": META of a number", core.told(r, 2), 0);
        t.due(what + ": TAG of a number", core.told(r, 0), 0);
        t.due(what + ": BASE of a number", core.told(r, 3), 0);
        t.due(what + ": TOP less BASE of a number", core.told(r, 4), -1);
        return this;
    }

    Bench dueCap(String what, int r, boolean tag, int address, int base, int length) {
        t.due(what + ": TAG", core.told(r, 0), tag ? 1 : 0);
        t.due(what + ": ADDRESS", core.told(r, 1), address);
        t.due(what + ": BASE", core.told(r, 3), base);
        t.due(what + ": TOP less BASE", core.told(r, 4), length);
        return this;
    }

    Bench dueKind(String what, int r, int perms, int type) {
        t.due(what + ": PERMS", core.told(r, 5), perms);
        t.due(what + ": TYPE", core.told(r, 6), type);
        return this;
    }

    /** The last step was this TRAP, of an instruction that stands at an ADDRESS. */
    Bench dueTrap(String what, int cause, int value, int at) {
        t.due(what + ": CAUSE", core.count(1), cause);
        t.due(what + ": VALUE", core.count(2), value);
        t.due(what + ": MEPCC", core.told(36, 1), at);
        t.due(what + ": PCC", core.told(32, 1), TRAPS);
        return this;
    }

    Bench dueNoTrap(String what, int at) {
        t.due(what + ": traps", core.count(4), 0);
        t.due(what + ": PCC", core.told(32, 1), at);
        return this;
    }
}
