/** Promise 5: loads and stores, of numbers and of capabilities. */
public final class LoadStoreTest {
    private static final int DATA = 8192;
    private static final int BOTH = Bench.LOAD | Bench.STORE;

    public static void main(String[] args) {
        Tests t = new Tests("promise 5: loads and stores");
        loads(t);
        stores(t);
        faults(t);
        capabilities(t);
        tagsTakenAway(t);
        storesOfTags(t);
        order(t);
        t.end();
    }

    private static Bench bench(Tests t, int perms, int... code) {
        Bench b = new Bench(t, code).root(1, DATA, 64, perms);
        b.core.word(DATA / 4, 0x8182F384);
        b.core.word(DATA / 4 + 1, 0x11223344);
        return b;
    }

    private static void load(Tests t, int function, int by, int due) {
        bench(t, Bench.LOAD, Code.load(function, 5, 1, by)).run(1).dueNumber("load " + function + " " + by, 5, due);
    }

    private static void loads(Tests t) {
        load(t, 0, 0, 0xFFFFFF84);
        load(t, 0, 1, 0xFFFFFFF3);
        load(t, 0, 4, 0x44);
        load(t, 0, 7, 0x11);
        load(t, 1, 0, 0xFFFFF384);
        load(t, 1, 2, 0xFFFF8182);
        load(t, 1, 6, 0x1122);
        load(t, 2, 0, 0x8182F384);
        load(t, 2, 4, 0x11223344);
        load(t, 4, 3, 0x81);
        load(t, 5, 2, 0x8182);
        bench(t, Bench.LOAD, Code.load(2, 0, 1, 0)).run(1).dueNumber("register 0", 0, 0).dueNoTrap("load", 4);
    }

    private static void store(Tests t, int function, int by, int first, int second) {
        Bench b = bench(t, Bench.STORE, Code.store(function, 6, 1, by)).number(6, 0xA1B2C3D4).run(1);
        t.due("store " + function + " " + by, b.core.memory(DATA / 4), first);
        t.due("store " + function + " " + by + ", next", b.core.memory(DATA / 4 + 1), second);
        b.dueNoTrap("store", 4);
    }

    private static void stores(Tests t) {
        store(t, 0, 0, 0x8182F3D4, 0x11223344);
        store(t, 0, 3, 0xD482F384, 0x11223344);
        store(t, 0, 5, 0x8182F384, 0x1122D444);
        store(t, 1, 0, 0x8182C3D4, 0x11223344);
        store(t, 1, 2, 0xC3D4F384, 0x11223344);
        store(t, 1, 6, 0x8182F384, 0xC3D43344);
        store(t, 2, 4, 0x8182F384, 0xA1B2C3D4);
        store(t, 3, 0, 0xA1B2C3D4, 0);
    }

    private static void fault(Tests t, String what, int perms, int code, int cause, int value) {
        Bench b = bench(t, perms, code).number(5, 77).run(1);
        b.dueTrap(what, cause, value, 0);
        t.due(what + ": register", b.address(5), 77);
        t.due(what + ": memory", b.core.memory(DATA / 4), 0x8182F384);
    }

    private static void faults(Tests t) {
        fault(t, "no LOAD", 4095 - Bench.LOAD, Code.load(2, 5, 1, 0), 28, 32 + 18);
        fault(t, "no STORE", 4095 - Bench.STORE, Code.store(2, 5, 1, 0), 28, 32 + 19);
        fault(t, "no TAG", 4095, Code.load(2, 5, 2, 0), 28, 64 + 2);
        fault(t, "register 0", 4095, Code.store(2, 5, 0, 0), 28, 2);
        fault(t, "before", BOTH, Code.load(0, 5, 1, -1), 28, 32 + 1);
        fault(t, "behind", BOTH, Code.load(0, 5, 1, 64), 28, 32 + 1);
        fault(t, "half behind", BOTH, Code.load(2, 5, 1, 62), 28, 32 + 1);
        fault(t, "stores behind", BOTH, Code.store(2, 5, 1, 61), 28, 32 + 1);
        fault(t, "half word", BOTH, Code.load(1, 5, 1, 1), 4, DATA + 1);
        fault(t, "half word, no sign", BOTH, Code.load(5, 5, 1, 3), 4, DATA + 3);
        fault(t, "word", BOTH, Code.load(2, 5, 1, 6), 4, DATA + 6);
        fault(t, "capability", BOTH, Code.load(3, 5, 1, 4), 4, DATA + 4);
        fault(t, "half word stored", BOTH, Code.store(1, 5, 1, 1), 6, DATA + 1);
        fault(t, "word stored", BOTH, Code.store(2, 5, 1, 2), 6, DATA + 2);
        fault(t, "capability stored", BOTH, Code.store(3, 5, 1, 4), 6, DATA + 4);
        for (int function = 4; function < 8; function++) {
            int code = Code.store(function, 5, 1, 0);
            fault(t, "no such store", BOTH, code, 2, code);
        }
        for (int function = 6; function < 8; function++) {
            int code = Code.load(function, 5, 1, 0);
            fault(t, "no such load", BOTH, code, 2, code);
        }
        Bench far = new Bench(t, Code.load(0, 5, 2, 0)).root(2, 16384, 64, BOTH).run(1);
        far.dueTrap("load beyond memory", 5, 16384, 0);
        new Bench(t, Code.store(3, 5, 2, 8)).root(2, 16384, 64, BOTH).run(1).dueTrap("beyond", 7, 16392, 0);
        new Bench(t, Code.store(3, 5, 2, 4)).root(2, 16384, 64, BOTH).run(1).dueTrap("multiple first", 6, 16388, 0);
        new Bench(t, Code.load(2, 5, 2, 0)).root(2, -4, 4, BOTH).run(1).dueTrap("load at the end", 5, -4, 0);
        new Bench(t, Code.load(2, 5, 2, 4)).root(2, -4, 4, BOTH).run(1).dueTrap("round the end", 28, 65, 0);
        new Bench(t, Code.store(2, 2, 2, 0)).root(2, 16380, 4, BOTH).run(1).dueNoTrap("the last word", 4);
    }

    private static void capabilities(Tests t) {
        int[] code = {Code.store(3, 2, 1, 8), Code.load(3, 5, 1, 8), Code.load(3, 6, 3, 8), Code.load(3, 7, 1, 0)};
        Bench b = bench(t, 4095, code).root(2, 1000, 4095, 0x8A5).root(3, DATA, 64, 4095 - Bench.LOADCAP).run(4);
        b.dueCap("loaded", 5, true, 1000, 512, 4608).dueKind("loaded", 5, 0x8A5, 15);
        t.due("META loaded", b.core.told(5, 2), b.core.told(2, 2));
        b.dueCap("loaded without LOADCAP", 6, false, 1000, 512, 4608).dueKind("the same", 6, 0x8A5, 15);
        t.due("words that are no capability: ADDRESS", b.core.told(7, 1), 0x8182F384);
        t.due("words that are no capability: META", b.core.told(7, 2), 0x11223344);
        t.due("words that are no capability: TAG", b.core.told(7, 0), 0);
        t.due("ADDRESS in memory", b.core.memory(DATA / 4 + 2), 1000);
        t.due("META in memory", b.core.memory(DATA / 4 + 3), b.core.told(2, 2));
        t.isTrue("TAG in memory", b.core.tag(DATA / 4 + 3));
        Bench none = bench(t, 4095, Code.store(3, 2, 1, 0), Code.store(3, 0, 1, 0)).root(2, 0, 8, 1).run(2);
        t.isTrue("NULL takes a TAG away", !none.core.tag(DATA / 4));
        t.due("NULL in memory", none.core.memory(DATA / 4) | none.core.memory(DATA / 4 + 1), 0);
    }

    private static void tagsTakenAway(Tests t) {
        for (int function = 0; function < 3; function++) {
            for (int by = 0; by < 8; by += 1 << function) {
                int[] code = {Code.store(3, 1, 1, 8), Code.store(3, 1, 1, 16), Code.store(function, 0, 1, 8 + by)};
                Bench b = bench(t, 4095, code).run(3);
                t.isTrue("TAG after a number of " + (1 << function) + " at " + by, !b.core.tag(DATA / 4 + 2));
                t.isTrue("the next TAG", b.core.tag(DATA / 4 + 4));
            }
        }
    }

    private static void storesOfTags(Tests t) {
        storeTag(t, "no STORECAP", 4095 - Bench.STORECAP, 1, 28, 32 + 21);
        storeTag(t, "no STORECAP, not GLOBAL", BOTH, 0, 28, 32 + 21);
        storeTag(t, "no STORELOCAL", 4095 - Bench.STORELOCAL, 4094, 28, 32 + 22);
        storeTag(t, "no STORELOCAL, GLOBAL", 4095 - Bench.STORELOCAL, 1, -1, 0);
        storeTag(t, "STORELOCAL, not GLOBAL", BOTH | Bench.STORECAP | Bench.STORELOCAL, 4094, -1, 0);
        Bench plain = bench(t, BOTH, Code.inspect(11, 2, 2), Code.store(3, 2, 1, 0)).root(2, 64, 8, 4094).run(2);
        plain.dueNoTrap("without a TAG nothing more is wanted", 8);
        t.isTrue("no TAG", !plain.core.tag(DATA / 4));
    }

    private static void storeTag(Tests t, String what, int perms, int permsStored, int cause, int value) {
        Bench b = bench(t, perms, Code.store(3, 2, 1, 0)).root(2, 64, 8, permsStored).run(1);
        if (cause < 0) {
            b.dueNoTrap(what, 4);
        } else {
            b.dueTrap(what, cause, value, 0);
        }
        t.isTrue(what + ": TAG", b.core.tag(DATA / 4) == cause < 0);
    }

    /** Of several faults the first in the document's order counts. */
    private static void order(Tests t) {
        int[] seals = {Code.cap(11, 5, 1, 3), Code.inspect(11, 6, 5), Code.load(2, 7, 5, 999), Code.load(2, 7, 6, 999)};
        Bench b = bench(t, 0, seals).root(3, 0, 16, 4095).run(3);
        b.dueTrap("sealed before PERMS", 28, 32 * 5 + 3, 8);
        Bench c = bench(t, 0, seals[0], seals[1], seals[3]).root(3, 0, 16, 4095).run(3);
        c.dueTrap("TAG before sealed", 28, 32 * 6 + 2, 8);
        fault(t, "PERMS before BOUNDS", Bench.STORE, Code.load(2, 5, 1, 999), 28, 32 + 18);
        fault(t, "BOUNDS before multiples", BOTH, Code.load(2, 5, 1, 999), 28, 32 + 1);
        fault(t, "STORE before STORECAP", 0, Code.store(3, 1, 1, 999), 28, 32 + 19);
        fault(t, "STORECAP before BOUNDS", BOTH, Code.store(3, 1, 1, 999), 28, 32 + 21);
        fault(t, "STORELOCAL before BOUNDS", BOTH | Bench.STORECAP, Code.store(3, 1, 1, 999), 28, 32 + 22);
        fault(t, "BOUNDS behind them", 4095, Code.store(3, 1, 1, 999), 28, 32 + 1);
    }
}
