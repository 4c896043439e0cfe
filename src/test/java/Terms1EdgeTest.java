/** The edges that Terms 1 names: the bits of META, the PERMS one by one, TYPES, NULL. */
public final class Terms1EdgeTest {
    private static final int DATA = 8192;

    public static void main(String[] args) {
        Tests t = new Tests("Terms 1, edges");
        fields(t);
        boundsBits(t);
        lowPerms(t);
        highPerms(t);
        types(t);
        nullCapability(t);
        turned(t);
        t.end();
    }

    private static void fields(Tests t) {
        t.says("20 to 31 PERMS, 16 to 19 TYPE, 15, 14 IE, 8 to 13 T, 0 to 7 B.");
        put(t, 31, 2048, 15);
        put(t, 30, 1024, 15);
        put(t, 21, 2, 15);
        put(t, 20, 1, 15);
        put(t, 19, 0, 7);
        put(t, 18, 0, 11);
        put(t, 17, 0, 13);
        put(t, 16, 0, 14);
        put(t, 15, 0, 15);
        put(t, 14, 0, 15);
        CheriCore core = new CheriCore();
        core.put(5, 0, 1 << 15);
        t.due("BASE, bit 15", core.told(5, 3), 0);
        t.due("length, bit 15", core.told(5, 4), -1);
        // IE is 0: B 2, T 3.
        core.put(5, 0, 1 << 14);
        t.due("BASE, bit 14", core.told(5, 3), 2);
        t.due("length, bit 14", core.told(5, 4), 1);
    }

    /** One bit of a META that is told as 0. */
    private static void put(Tests t, int bit, int perms, int type) {
        CheriCore core = new CheriCore();
        core.put(5, 0, 1 << bit);
        t.due("PERMS, bit " + bit, core.told(5, 5), perms);
        t.due("TYPE, bit " + bit, core.told(5, 6), type);
        t.due("META, bit " + bit, core.told(5, 2), 1 << bit);
    }

    private static void boundsBits(Tests t) {
        t.says("14 IE, 8 to 13 T, 0 to 7 B.");
        CheriCore core = new CheriCore();
        ends(t, core, 1, 0, 1, 64);
        ends(t, core, 128, 128, 128, 128);
        ends(t, core, 1 << 8, 0, 0, 1);
        ends(t, core, 1 << 13, 0, 0, 32);
        ends(t, core, 1 << 14, 0, 0, 64);
        ends(t, core, 1 << 15, 0, 0, 0);
    }

    private static void ends(Tests t, CheriCore core, int meta, int address, long base, long top) {
        t.due("BASE of " + meta, core.bound(meta, address, false), base);
        t.due("TOP of " + meta, core.bound(meta, address, true), top);
    }

    /** Of each PERM: what can be done with it alone (or with those that are wanted too), and not with all others. */
    private static void lowPerms(Tests t) {
        t.says("PERMS (from bit 0 of them on): 0 GLOBAL, 1 RUN, 2 LOAD, 3 STORE, 4 LOADCAP, 5 STORECAP, 6 STORELOCAL,");
        run(t, 1 << 1, true);
        run(t, 4095 - (1 << 1), false);
        by(t, "LOAD", 1 << 2, Code.load(2, 5, 1, 0), 0, 0);
        by(t, "LOAD", 4095 - (1 << 2), Code.load(2, 5, 1, 0), 28, 32 + 18);
        by(t, "STORE", 1 << 3, Code.store(2, 5, 1, 0), 0, 0);
        by(t, "STORE", 4095 - (1 << 3), Code.store(2, 5, 1, 0), 28, 32 + 19);
        loaded(t, 1 << 2 | 1 << 4, 1);
        loaded(t, 4095 - (1 << 4), 0);
        // Register 2 is GLOBAL, register 3 has all but that.
        by(t, "STORECAP", 1 << 3 | 1 << 5, Code.store(3, 2, 1, 0), 0, 0);
        by(t, "STORECAP", 4095 - (1 << 5), Code.store(3, 2, 1, 0), 28, 32 + 21);
        by(t, "STORELOCAL", 1 << 3 | 1 << 5 | 1 << 6, Code.store(3, 3, 1, 0), 0, 0);
        by(t, "STORELOCAL", 4095 - (1 << 6), Code.store(3, 3, 1, 0), 28, 32 + 22);
        by(t, "GLOBAL", 4095 - (1 << 6), Code.store(3, 2, 1, 0), 0, 0);
    }

    private static void run(Tests t, int perms, boolean may) {
        Bench b = new Bench(t, perms, new int[] {Code.NOP}).run(1);
        if (may) {
            b.dueNoTrap("RUN", 4);
        } else {
            b.dueTrap("no RUN", 28, 1024 + 17, 0);
        }
    }

    private static Bench bench(Tests t, int perms, int... code) {
        return new Bench(t, code).root(1, DATA, 64, perms).root(2, 64, 8, 1).root(3, 64, 8, 4094);
    }

    private static void by(Tests t, String what, int perms, int code, int cause, int value) {
        Bench b = bench(t, perms, code).run(1);
        if (cause == 0) {
            b.dueNoTrap(what + " with " + perms, 4);
        } else {
            b.dueTrap(what + " with " + perms, cause, value, 0);
        }
    }

    private static void loaded(Tests t, int perms, int tag) {
        int[] code = {Code.store(3, 2, 4, 0), Code.load(3, 5, 1, 0)};
        Bench b = bench(t, perms, code).root(4, DATA, 64, 4095).run(2).dueNoTrap("LC", 8);
        t.due("TAG loaded with " + perms, b.core.told(5, 0), tag);
    }

    private static void highPerms(Tests t) {
        t.says("7 SEAL, 8 INVOKE, 9 UNSEAL, 10 SYSTEM, 11 free.");
        int seal = Code.cap(11, 5, 1, 2);
        for (int perm = 0; perm < 12; perm++) {
            Bench only = new Bench(t, seal, Code.cap(12, 6, 5, 3)).root(1, DATA, 64, 1);
            only.root(2, 0, 16, 1 << perm).root(3, 0, 16, 4095).run(2);
            t.due("SEAL, only " + perm, only.core.told(5, 0), perm == 7 ? 1 : 0);
            Bench all = new Bench(t, seal, Code.cap(12, 6, 5, 3)).root(1, DATA, 64, 1);
            all.root(2, 0, 16, 4095 - (1 << perm)).root(3, 0, 16, 4095).run(2);
            t.due("SEAL, all but " + perm, all.core.told(5, 0), perm == 7 ? 0 : 1);
            t.due("UNSEAL, only " + perm, unsealed(t, 1 << perm), perm == 9 ? 1 : 0);
            t.due("UNSEAL, all but " + perm, unsealed(t, 4095 - (1 << perm)), perm == 9 ? 0 : 1);
            system(t, perm);
            invoked(t, perm);
        }
    }

    private static int unsealed(Tests t, int perms) {
        Bench b = new Bench(t, Code.cap(11, 5, 1, 2), Code.cap(12, 6, 5, 3)).root(1, DATA, 64, 1);
        return b.root(2, 0, 16, 4095).root(3, 0, 16, perms).run(2).core.told(6, 0);
    }

    private static void system(Tests t, int perm) {
        int[] code = {Code.csr(2, 5, Code.CAUSE, 0)};
        Bench only = new Bench(t, 1 << 1 | 1 << perm, code).run(1);
        t.due("SYSTEM, RUN and " + perm, only.core.count(4), perm == 10 ? 0 : 1);
        if (perm != 1) {
            Bench all = new Bench(t, 4095 - (1 << perm), code).run(1);
            t.due("SYSTEM, all but " + perm, all.core.count(4), perm == 10 ? 1 : 0);
        }
    }

    private static void invoked(Tests t, int perm) {
        int[] code = {Code.cap(11, 5, 1, 3), Code.cap(11, 6, 2, 3), Code.invoke(5, 6)};
        Bench only = new Bench(t, code).root(1, 1024, 64, 1 << 1 | 1 << perm).root(2, DATA, 64, 1 << 8);
        only.root(3, 0, 16, 4095).run(3);
        t.due("INVOKE, RUN and " + perm, only.core.count(4), perm == 8 ? 0 : 1);
        Bench data = new Bench(t, code).root(1, 1024, 64, 4095).root(2, DATA, 64, 1 << perm);
        data.root(3, 0, 16, 4095).run(3);
        t.due("INVOKE of data, only " + perm, data.core.count(4), perm == 8 ? 0 : 1);
    }

    private static void types(Tests t) {
        t.says("TYPE is 15 of one that is open, 14 of a gate; others are sealed.");
        for (int type = 0; type < 16; type++) {
            Bench b = new Bench(t, Code.inspect(1, 6, 5), Code.inspect(5, 7, 5));
            b.core.put(5, 64, (type ^ 15) << 16);
            b.run(2).dueNumber("kind of " + type, 6, type == 15 ? -1 : type == 14 ? -2 : type);
            b.dueNumber("not open: " + type, 7, type == 15 ? 0 : 1);
        }
        // With a TAG: what is open moves, a gate and what is sealed do not; a gate and what is open can be jumped by.
        int jump = Code.jalr(0, 5, 0);
        kind(t, "open", 1, 1, Code.inspect(10, 5, 1), jump);
        kind(t, "a gate", 0, 1, Code.inspect(17, 5, 1), jump);
        kind(t, "sealed", 0, 0, Code.cap(11, 5, 1, 3), jump);
    }

    private static void kind(Tests t, String what, int moves, int jumps, int make, int jump) {
        Bench b = new Bench(t, make, Code.incOffset(6, 5, 0), jump).root(1, 1024, 64, 4095).root(3, 11, 1, 4095).run(3);
        t.due(what + " has a TAG", b.core.told(5, 0), 1);
        t.due(what + " moves", b.core.told(6, 0), moves);
        t.due(what + " can be jumped by", b.core.told(32, 1) == 1024 ? 1 : 0, jumps);
    }

    private static void nullCapability(Tests t) {
        t.says("NULL has no TAG, ADDRESS 0, META 1000194 (open, no PERMS).");
        CheriCore core = new CheriCore();
        for (int r = 0; r < 37; r++) {
            t.due("TAG of " + r, core.told(r, 0), 0);
            t.due("ADDRESS of " + r, core.told(r, 1), 0);
            t.due("META of " + r, core.told(r, 2) ^ 1000194, 1000194);
            t.due("TYPE of " + r, core.told(r, 6), 15);
            t.due("PERMS of " + r, core.told(r, 5), 0);
            t.due("BASE of " + r, core.told(r, 3), 0);
            t.due("length of " + r, core.told(r, 4), -1);
        }
    }

    private static void turned(Tests t) {
        t.says("META is stored and told with its bits turned where those of NULL are 1.");
        int[] code = {Code.store(3, 5, 1, 0), Code.store(3, 0, 1, 8), Code.store(3, 1, 1, 16), Code.load(3, 6, 1, 24),
            Code.load(3, 7, 1, 32)};
        Bench b = new Bench(t, code).root(1, DATA, 64, 4095);
        b.core.put(5, 9, -1);
        b.core.word(DATA / 4 + 2, 77);
        b.core.word(DATA / 4 + 3, 77);
        b.core.word(DATA / 4 + 9, 1000194);
        b.run(5);
        t.due("all bits, told", b.core.told(5, 2), -1);
        t.due("all bits, PERMS", b.core.told(5, 5), 4095);
        t.due("all bits, TYPE", b.core.told(5, 6), 0);
        t.due("all bits, stored", b.core.memory(DATA / 4 + 1), -1);
        t.due("NULL, stored", b.core.memory(DATA / 4 + 2) | b.core.memory(DATA / 4 + 3), 0);
        // IE, T 0, B 0, E 0; all PERMS, open.
        t.due("a root, stored", b.core.memory(DATA / 4 + 5), (4095 << 20 | 15 << 16 | 1 << 14) ^ 1000194);
        t.due("words of 0, loaded: META", b.core.told(6, 2), 0);
        t.due("words of 0, loaded: TYPE", b.core.told(6, 6), 15);
        t.due("1000194, loaded: TYPE", b.core.told(7, 6), 0);
        t.due("1000194, loaded: length", b.core.told(7, 4), 0);
    }
}
