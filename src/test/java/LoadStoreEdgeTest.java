/** The edges that Terms 3 names of LOADS and STORES. */
public final class LoadStoreEdgeTest {
    private static final int DATA = 8192;
    private static final int ALL = 4095;

    public static void main(String[] args) {
        Tests t = new Tests("Terms 3, edges of LOADS and STORES");
        signs(t);
        neighbours(t);
        inBounds(t);
        multiples(t);
        inMemory(t);
        immediates(t);
        wraps(t);
        order(t);
        loadCapability(t);
        storeCapability(t);
        storeOrder(t);
        noSuch(t);
        t.end();
    }

    /** Loads of all kinds, then stores: 0 to 5 and 8 to 11. */
    private static final int[] KINDS = {0, 1, 2, 3, 4, 5, 8, 9, 10, 11};

    private static int bytes(int kind) {
        return 1 << (kind & 3);
    }

    private static int code(int kind, int by) {
        return kind < 8 ? Code.load(kind, 5, 1, by) : Code.store(kind - 8, 5, 1, by);
    }

    /** Register 1 reaches length bytes at base; register 5 is 77; there is one instruction. */
    private static Bench one(Tests t, int base, int length, int code) {
        return new Bench(t, code).root(1, base, length, ALL).number(5, 77).run(1);
    }

    /** A cause of -1 stands for none. */
    private static void due(Tests t, String what, Bench b, int cause, int value) {
        if (cause < 0) {
            b.dueNoTrap(what, 4);
            return;
        }
        b.dueTrap(what, cause, value, 0).dueNumber(what + ": nothing loaded", 5, 77);
        t.due(what + ": nothing stored", b.core.memory(DATA / 4) | b.core.memory(DATA / 4 + 16), 0);
    }

    private static void signs(Tests t) {
        t.says("LOADS and STORES go by cs1");
        int[] words = {0x7F, 0x80, 0xFF, 0x7FFF, 0x8000, 0xFFFF, 0x7FFFFFFF, 0x80000000};
        for (int w : words) {
            loaded(t, 0, w, (byte) w);
            loaded(t, 1, w, (short) w);
            loaded(t, 2, w, w);
            loaded(t, 4, w, w & 255);
            loaded(t, 5, w, w & 65535);
        }
    }

    private static void loaded(Tests t, int function, int w, int due) {
        Bench b = new Bench(t, Code.load(function, 5, 1, 0)).root(1, DATA, 64, ALL);
        b.core.word(DATA / 4, w);
        b.run(1).dueNumber("load " + function + " of " + w, 5, due);
    }

    /** Two words of ones, in which as many bytes as are stored become those of the number, and no others. */
    private static void neighbours(Tests t) {
        t.says("LOADS and STORES go by cs1 (at its ADDRESS and immediate, mod 2^32)");
        for (int function = 0; function < 3; function++) {
            int many = 1 << function;
            for (int by = 0; by < 8; by += many) {
                Bench b = new Bench(t, Code.store(function, 6, 1, by)).root(1, DATA, 64, ALL).number(6, 0x12345678);
                b.core.word(DATA / 4, -1);
                b.core.word(DATA / 4 + 1, -1);
                b.run(1);
                for (int k = 0; k < 8; k++) {
                    int due = k < by || k >= by + many ? 255 : 0x12345678 >>> 8 * (k - by) & 255;
                    int got = b.core.memory(DATA / 4 + k / 4) >>> 8 * (k % 4) & 255;
                    t.due("byte " + k + " behind a store of " + many + " at " + by, got, due);
                }
                t.due("the WORD before", b.core.memory(DATA / 4 - 1), 0);
                t.due("the WORD behind", b.core.memory(DATA / 4 + 2), 0);
            }
        }
    }

    private static void inBounds(Tests t) {
        t.says("it reaches the bytes by LOAD or STORE;");
        for (int kind : KINDS) {
            int n = bytes(kind);
            String what = "kind " + kind;
            due(t, what + " at BASE", one(t, DATA, 64, code(kind, 0)), -1, 0);
            due(t, what + " before BASE", one(t, DATA, 64, code(kind, -1)), 28, 33);
            due(t, what + " wholly before", one(t, DATA, 64, code(kind, -n)), 28, 33);
            due(t, what + " up to TOP", one(t, DATA, 64, code(kind, 64 - n)), -1, 0);
            due(t, what + " over TOP", one(t, DATA, 64, code(kind, 65 - n)), 28, 33);
            due(t, what + " at TOP", one(t, DATA, 64, code(kind, 64)), 28, 33);
            due(t, what + " just as many", one(t, DATA, n, code(kind, 0)), -1, 0);
            due(t, what + " one too few", one(t, DATA, n - 1, code(kind, 0)), 28, 33);
        }
    }

    private static void multiples(Tests t) {
        t.says("x a multiple of how many (else 4, of STORES 6),");
        for (int kind : KINDS) {
            for (int by = 0; by <= 8; by++) {
                boolean fine = by % bytes(kind) == 0;
                due(t, "kind " + kind + " at " + by, one(t, DATA, 64, code(kind, by)),
                    fine ? -1 : kind < 8 ? 4 : 6, DATA + by);
            }
        }
    }

    private static void inMemory(Tests t) {
        t.says("below 16384 (else 5, 7; VALUE x).");
        for (int kind : KINDS) {
            int n = bytes(kind);
            int cause = kind < 8 ? 5 : 7;
            due(t, "kind " + kind + " at the end", one(t, 16320, 128, code(kind, 64 - n)), -1, 0);
            due(t, "kind " + kind + " behind", one(t, 16320, 128, code(kind, 64)), cause, 16384);
            due(t, "kind " + kind + " far behind", one(t, 16320, 128, code(kind, 72)), cause, 16392);
            due(t, "kind " + kind + " at 2^31", one(t, Integer.MIN_VALUE, 64, code(kind, 0)), cause,
                Integer.MIN_VALUE);
            due(t, "kind " + kind + " at 2^32", one(t, -64, 64, code(kind, 64 - n)), cause, -n);
            if (n > 1) {
                due(t, "kind " + kind + " at no multiple", one(t, 16320, 128, code(kind, 65)), cause - 1, 16385);
            }
        }
    }

    private static void immediates(Tests t) {
        t.says("(at its ADDRESS and immediate, mod 2^32)");
        int[] to = {Code.cap(16, 1, 1, 2), Code.store(0, 5, 1, 2047), Code.store(0, 5, 1, -2048), Code.load(4, 6, 1, 2047),
            Code.load(4, 7, 1, -2048)};
        Bench b = new Bench(t, to).root(1, 0, 16384, ALL).number(2, 8192).number(5, 0xAB).run(5).dueNoTrap("far", 20);
        t.due("2047 behind", b.core.memory(2559), 0xAB000000);
        t.due("2048 before", b.core.memory(1536), 0xAB);
        b.dueNumber("loaded from behind", 6, 0xAB).dueNumber("loaded from before", 7, 0xAB);
    }

    private static void wraps(Tests t) {
        t.says("immediate, mod 2^32)");
        for (int kind : KINDS) {
            int n = bytes(kind);
            // From before 0 over it, and up to 2^32 and over it.
            Bench over = new Bench(t, Code.incOffset(1, 1, -8), code(kind, 8)).root(1, 0, 64, ALL).number(5, 77).run(2);
            over.dueNoTrap("kind " + kind + " from before 0", 8);
            Bench short1 = new Bench(t, Code.incOffset(1, 1, -8), code(kind, 8 - n)).root(1, 0, 64, ALL).run(2);
            short1.dueTrap("kind " + kind + " up to 0", 28, 33, 4);
            due(t, "kind " + kind + " over 2^32", one(t, -64, 64, code(kind, 64)), 28, 33);
            due(t, "kind " + kind + " before 0", one(t, 0, 64, code(kind, -n)), 28, 33);
        }
    }

    private static void order(Tests t) {
        t.says("c reaches n bytes at x by P");
        // BOUNDS before multiples, these before the end of MEMORY.
        for (int kind : KINDS) {
            if (bytes(kind) > 1) {
                due(t, "kind " + kind + " BOUNDS first", one(t, 16384, 64, code(kind, 65)), 28, 33);
                due(t, "kind " + kind + " multiples next", one(t, 16384, 64, code(kind, 1)), kind < 8 ? 4 : 6, 16385);
            }
            due(t, "kind " + kind + " MEMORY last", one(t, 16384, 64, code(kind, 0)), kind < 8 ? 5 : 7, 16384);
        }
    }

    private static void loadCapability(Tests t) {
        t.says("LC (LOAD, 3): eight bytes, the lower four ADDRESS, then META; its TAG counts if cs1 has LOADCAP.");
        int[] code = {Code.store(3, 2, 4, 0), Code.load(3, 5, 1, 0), Code.load(3, 6, 1, 8)};
        for (int perms : new int[] {Bench.LOAD | Bench.LOADCAP, ALL - Bench.LOADCAP, Bench.LOAD}) {
            Bench b = new Bench(t, code).root(1, DATA, 64, perms).root(2, 64, 24, 0x8A4).root(4, DATA, 64, ALL);
            b.core.word(DATA / 4 + 2, 0x89ABCDEF);
            b.core.word(DATA / 4 + 3, -1);
            b.run(3).dueNoTrap("LC", 12);
            b.dueCap("LC with " + perms, 5, (perms & Bench.LOADCAP) != 0, 64, 64, 24).dueKind("LC", 5, 0x8A4, 15);
            t.due("LC of numbers: TAG", b.core.told(6, 0), 0);
            t.due("LC of numbers: ADDRESS", b.core.told(6, 1), 0x89ABCDEF);
            t.due("LC of numbers: META", b.core.told(6, 2), -1);
            t.isTrue("TAG stays in MEMORY", b.core.tag(DATA / 4));
        }
        // A sealed one and a gate are loaded as they are.
        int[] kept = {Code.cap(11, 2, 2, 4), Code.store(3, 2, 1, 0), Code.load(3, 5, 1, 0)};
        Bench s = new Bench(t, kept).root(1, DATA, 64, ALL).root(2, 64, 24, ALL).root(4, 11, 1, ALL).run(3);
        s.dueCap("sealed", 5, true, 64, 64, 24).dueKind("sealed", 5, ALL, 11);
    }

    private static void store(Tests t, String what, int perms, int stored, int value) {
        Bench b = new Bench(t, Code.store(3, 5, 1, 0)).root(1, DATA, 64, perms).root(5, 64, 8, stored).run(1);
        if (value == 0) {
            b.dueNoTrap(what, 4);
        } else {
            b.dueTrap(what, 28, value, 0);
        }
        t.isTrue(what + ": TAG", b.core.tag(DATA / 4) == (value == 0));
        t.due(what + ": ADDRESS", b.core.memory(DATA / 4), value == 0 ? 64 : 0);
    }

    private static void storeCapability(Tests t) {
        t.says("SC (STORE, 3) of cs2: if that has a TAG, behind STORE, before BOUNDS: STORECAP (21), and, if it is not"
            + " GLOBAL, STORELOCAL (22); TAG is written.");
        int storing = Bench.STORE | Bench.STORECAP;
        store(t, "GLOBAL", storing, 1, 0);
        store(t, "not GLOBAL", storing | Bench.STORELOCAL, 0, 0);
        store(t, "GLOBAL, no STORECAP", ALL - Bench.STORECAP, 1, 32 + 21);
        store(t, "not GLOBAL, no STORECAP", ALL - Bench.STORECAP, 0, 32 + 21);
        store(t, "not GLOBAL, no STORELOCAL", ALL - Bench.STORELOCAL, ALL - 1, 32 + 22);
        store(t, "GLOBAL, no STORELOCAL", ALL - Bench.STORELOCAL, ALL, 0);
        store(t, "not GLOBAL, neither", Bench.STORE, 0, 32 + 21);
        // Without a TAG none of these is wanted, be it GLOBAL or not.
        for (int perms = 0; perms < 2; perms++) {
            Bench b = new Bench(t, Code.inspect(11, 5, 5), Code.store(3, 5, 1, 0)).root(1, DATA, 64, Bench.STORE);
            b.root(5, 64, 8, perms).run(2).dueNoTrap("no TAG", 8);
            t.isTrue("no TAG is written", !b.core.tag(DATA / 4));
            t.due("ADDRESS", b.core.memory(DATA / 4), 64);
            t.due("META", b.core.memory(DATA / 4 + 1), b.core.told(5, 2));
        }
        // Numbers of a CAPABILITY with a TAG want STORE alone.
        for (int function = 0; function < 3; function++) {
            Bench b = new Bench(t, Code.store(function, 5, 1, 0)).root(1, DATA, 64, Bench.STORE).root(5, 64, 8, 0).run(1);
            b.dueNoTrap("a number", 4);
            t.due("a number", b.core.memory(DATA / 4), 64);
        }
    }

    private static void storeOrder(Tests t) {
        t.says("behind STORE, before BOUNDS: STORECAP (21),");
        int[][] dues = {{0, 32 + 19}, {Bench.STORE, 32 + 21}, {Bench.STORE | Bench.STORECAP, 32 + 22}, {ALL, 32 + 1}};
        for (int[] d : dues) {
            Bench b = new Bench(t, Code.store(3, 5, 1, 65)).root(1, DATA, 64, d[0]).root(5, 64, 8, 0).run(1);
            b.dueTrap("SC with " + d[0], 28, d[1], 0);
        }
        Bench sealed = new Bench(t, Code.cap(11, 1, 1, 3), Code.store(3, 5, 1, 65)).root(1, DATA, 64, 0);
        sealed.root(3, 11, 1, ALL).root(5, 64, 8, 0).run(2).dueTrap("sealed", 28, 32 + 3, 4);
    }

    private static void noSuch(Tests t) {
        t.says("An instruction that is none here: 2 (VALUE it).");
        for (int function = 4; function < 8; function++) {
            due(t, "store " + function, one(t, DATA, 64, Code.store(function, 5, 1, 0)), 2, Code.store(function, 5, 1, 0));
        }
        for (int function = 6; function < 8; function++) {
            due(t, "load " + function, one(t, DATA, 64, Code.load(function, 5, 1, 0)), 2, Code.load(function, 5, 1, 0));
        }
    }
}
