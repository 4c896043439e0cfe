/** The edges that Terms 4 names of CSeal, CUnseal, CInvoke and CSealEntry. */
public final class SealEdgeTest {
    private static final int CODE = 1024;
    private static final int DATA = 8192;

    public static void main(String[] args) {
        Tests t = new Tests("Terms 4, edges of sealing");
        sealTypes(t);
        sealPlaces(t);
        sealKinds(t);
        unsealTypes(t);
        unsealPlaces(t);
        unsealGlobal(t);
        unsealKinds(t);
        entries(t);
        invokeTypes(t);
        invokeOrder(t);
        invokePlaces(t);
        invokeRegisters(t);
        t.end();
    }

    private static int seal(int rd, int c, int d) {
        return Code.cap(11, rd, c, d);
    }

    private static int unseal(int rd, int c, int d) {
        return Code.cap(12, rd, c, d);
    }

    /** d has length bytes at base and stands at 'at'; register 5 is c (PERMS 7), sealed by it. */
    private static Bench sealed(Tests t, int base, int length, int at) {
        Bench b = new Bench(t, Code.cap(16, 3, 3, 2), seal(5, 1, 3)).root(1, CODE, 64, 7);
        return b.root(3, base, length, Bench.SEAL).number(2, at).run(2).dueNoTrap("CSeal", 8);
    }

    private static void sealTypes(Tests t) {
        t.says("11 CSeal: TYPE is d's ADDRESS mod 16; no TAG unless c and d have one, both are open, d has SEAL, its"
            + " ADDRESS (one byte) in its BOUNDS, and below 12.");
        for (int at = 0; at < 40; at++) {
            Bench b = sealed(t, 0, 40, at).dueCap("sealed by " + at, 5, at < 12, CODE, CODE, 64);
            b.dueKind("sealed by " + at, 5, 7, at % 16);
        }
        // A negative ADDRESS is far above 12.
        for (int at = -32; at < 0; at++) {
            Bench b = sealed(t, -32, 32, at).dueCap("sealed by " + at, 5, false, CODE, CODE, 64);
            b.dueKind("sealed by " + at, 5, 7, at & 15);
        }
    }

    private static void sealPlaces(Tests t) {
        t.says("its ADDRESS (one byte) in its BOUNDS, and below 12.");
        for (int at = 0; at < 14; at++) {
            sealed(t, 4, 3, at).dueCap("4 to 6: " + at, 5, at >= 4 && at < 7, CODE, CODE, 64);
            sealed(t, 11, 1, at).dueCap("11: " + at, 5, at == 11, CODE, CODE, 64);
            sealed(t, 4, 0, at).dueCap("nothing: " + at, 5, false, CODE, CODE, 64);
        }
    }

    private static void sealKinds(Tests t) {
        t.says("no TAG unless c and d have one, both are open, d has SEAL,");
        kinds(t, "as it should be", true, Code.NOP, Code.NOP);
        kinds(t, "c no TAG", false, Code.inspect(11, 1, 1), Code.NOP);
        kinds(t, "d no TAG", false, Code.NOP, Code.inspect(11, 3, 3));
        kinds(t, "c a gate", false, Code.inspect(17, 1, 1), Code.NOP);
        kinds(t, "d a gate", false, Code.NOP, Code.inspect(17, 3, 3));
        kinds(t, "c sealed", false, seal(1, 1, 3), Code.NOP);
        kinds(t, "d sealed", false, Code.NOP, seal(3, 3, 4));
        Bench no = new Bench(t, seal(5, 1, 3)).root(1, CODE, 64, 7).root(3, 5, 1, 4095 - Bench.SEAL).run(1);
        no.dueCap("no SEAL", 5, false, CODE, CODE, 64).dueKind("no SEAL", 5, 7, 5);
    }

    private static void kinds(Tests t, String what, boolean tag, int first, int second) {
        Bench b = new Bench(t, first, second, seal(5, 1, 3)).root(1, CODE, 64, 7).root(3, 5, 1, Bench.SEAL | Bench.RUN);
        b.root(4, 11, 1, Bench.SEAL).run(3).dueCap(what, 5, tag, CODE, CODE, 64).dueKind(what, 5, 7, 5);
    }

    /** Register 5 is sealed by 'type' of all types; d then has length bytes at base and stands at 'at'. */
    private static Bench unsealed(Tests t, int type, int base, int length, int at) {
        int[] code = {Code.incOffset(4, 4, type), seal(5, 1, 4), Code.cap(16, 3, 3, 2), unseal(6, 5, 3)};
        Bench b = new Bench(t, code).root(1, CODE, 64, 7).root(3, base, length, Bench.UNSEAL | Bench.GLOBAL);
        return b.root(4, 0, 16, Bench.SEAL).number(2, at).run(4).dueNoTrap("CUnseal", 16);
    }

    private static void unsealTypes(Tests t) {
        t.says("no TAG unless both have one, c's TYPE is below 12 and d's ADDRESS, d is open, has UNSEAL, and that in its"
            + " BOUNDS.");
        for (int type = 0; type < 12; type++) {
            for (int at : new int[] {type - 1, type, type + 1, type + 16, type - 16}) {
                Bench b = unsealed(t, type, 0, 40, at).dueCap(type + " by " + at, 6, at == type, CODE, CODE, 64);
                b.dueKind(type + " by " + at, 6, 7, 15);
            }
        }
        // TYPES 12 to 15 are sealed by none (12 and 13 have no TAG), though d's ADDRESS is the same.
        for (int type = 12; type < 16; type++) {
            int make = type == 15 ? Code.NOP : type == 14 ? Code.inspect(17, 1, 1) : seal(1, 1, 3);
            Bench b = new Bench(t, Code.incOffset(3, 3, type), make, unseal(6, 1, 3)).root(1, CODE, 64, 7);
            b.root(3, 0, 16, 4095).run(3).dueCap("TYPE " + type, 6, false, CODE, CODE, 64).dueKind("TYPE", 6, 7, 15);
        }
    }

    private static void unsealPlaces(Tests t) {
        t.says("has UNSEAL, and that in its BOUNDS.");
        for (int type = 3; type < 9; type++) {
            unsealed(t, type, 4, 3, type).dueCap("4 to 6: " + type, 6, type >= 4 && type < 7, CODE, CODE, 64);
            unsealed(t, type, 4, 0, type).dueCap("nothing: " + type, 6, false, CODE, CODE, 64);
        }
        unsealed(t, 11, 11, 1, 11).dueCap("just 11", 6, true, CODE, CODE, 64);
    }

    private static void unsealGlobal(Tests t) {
        t.says("12 CUnseal: open; GLOBAL only if d is;");
        for (int c = 0; c < 2; c++) {
            for (int d = 0; d < 2; d++) {
                Bench b = new Bench(t, seal(5, 1, 4), unseal(6, 5, 3)).root(1, CODE, 64, 0x8A6 | c);
                b.root(3, 5, 1, Bench.UNSEAL | d).root(4, 5, 1, Bench.SEAL).run(2);
                b.dueCap("unsealed", 6, true, CODE, CODE, 64).dueKind("c " + c + ", d " + d, 6, 0x8A6 | c & d, 15);
                t.due("grown()", b.core.grown(), 0);
            }
        }
    }

    private static void unsealKinds(Tests t) {
        t.says("no TAG unless both have one,");
        unsealKind(t, "as it should be", true, 4095, Code.NOP, Code.NOP);
        unsealKind(t, "c no TAG", false, 4095, Code.inspect(11, 5, 5), Code.NOP);
        unsealKind(t, "d no TAG", false, 4095, Code.NOP, Code.inspect(11, 3, 3));
        unsealKind(t, "d a gate", false, 4095, Code.NOP, Code.inspect(17, 3, 3));
        unsealKind(t, "d sealed", false, 4095, Code.NOP, seal(3, 3, 4));
        unsealKind(t, "no UNSEAL", false, 4095 - Bench.UNSEAL, Code.NOP, Code.NOP);
    }

    private static void unsealKind(Tests t, String what, boolean tag, int perms, int first, int second) {
        Bench b = new Bench(t, seal(5, 1, 4), first, second, unseal(6, 5, 3)).root(1, CODE, 64, 7);
        b.root(3, 5, 1, perms).root(4, 5, 1, Bench.SEAL).run(4);
        b.dueCap(what, 6, tag, CODE, CODE, 64).dueKind(what, 6, 7, 15);
    }

    private static void entries(Tests t) {
        t.says("17 CSealEntry: TYPE 14, no TAG unless it is open and has RUN.");
        int entry = Code.inspect(17, 6, 5);
        entry(t, "open with RUN", true, 2, Code.inspect(10, 5, 1), entry);
        entry(t, "no RUN", false, 4093, Code.inspect(10, 5, 1), entry);
        entry(t, "a gate", false, 2, Code.inspect(17, 5, 1), entry);
        entry(t, "sealed", false, 2, seal(5, 1, 3), entry);
        entry(t, "no TAG", false, 2, Code.inspect(11, 5, 1), entry);
    }

    private static void entry(Tests t, String what, boolean tag, int perms, int... code) {
        Bench b = new Bench(t, code).root(1, CODE, 64, perms).root(3, 11, 1, 4095).run(2);
        b.dueCap(what, 6, tag, CODE, CODE, 64).dueKind(what, 6, perms, 14);
    }

    /** Registers 5 and 6 are made by two instructions of 1 (code) and 2 (data); 3 and 4 are types. */
    private static Bench invoke(Tests t, int ofCode, int ofData, int... code) {
        int[] all = new int[code.length + 1];
        System.arraycopy(code, 0, all, 0, code.length);
        all[code.length] = Code.invoke(5, 6);
        return invoke(t, 64, ofCode, ofData, all);
    }

    private static Bench invoke(Tests t, int length, int ofCode, int ofData, int[] code) {
        Bench b = new Bench(t, code).root(1, CODE, length, ofCode).root(2, DATA, 64, ofData).root(3, 0, 16, 4095);
        return b.root(4, 11, 1, 4095).run(code.length);
    }

    private static void invokeTypes(Tests t) {
        t.says("c, d not of a TYPE below 12 (3), TYPES not the same (4, of c),");
        for (int type = 0; type < 12; type++) {
            int[] both = {Code.incOffset(3, 3, type), seal(5, 1, 3), seal(6, 2, 3)};
            invoke(t, 258, 256, both).dueNoTrap("both " + type, CODE);
            int[] one = {Code.incOffset(3, 3, type), seal(5, 1, 3), seal(6, 2, 4)};
            Bench other = invoke(t, 258, 256, one);
            if (type == 11) {
                other.dueNoTrap("11 and 11", CODE);
            } else {
                other.dueTrap(type + " and 11", 28, 32 * 5 + 4, 12);
            }
        }
        int gate = Code.inspect(17, 5, 1);
        invoke(t, 258, 258, gate, seal(6, 2, 3)).dueTrap("c a gate", 28, 32 * 5 + 3, 8);
        invoke(t, 258, 258, Code.inspect(10, 5, 1), seal(6, 2, 3)).dueTrap("c open", 28, 32 * 5 + 3, 8);
        invoke(t, 258, 258, seal(5, 1, 3), Code.inspect(17, 6, 2)).dueTrap("d a gate", 28, 32 * 6 + 3, 8);
        invoke(t, 258, 258, seal(5, 1, 3), Code.inspect(10, 6, 2)).dueTrap("d open", 28, 32 * 6 + 3, 8);
        invoke(t, 258, 258, gate, Code.inspect(17, 6, 2)).dueTrap("both gates", 28, 32 * 5 + 3, 8);
    }

    /** Each has all that comes behind it in the document wrong too, where one CAPABILITY can have it. */
    private static void invokeOrder(Tests t) {
        t.says("126 (rd 1) CInvoke: TRAP 28 by the first of: c, d no TAG (2), c, d not of a TYPE below 12 (3), TYPES not"
            + " the same (4, of c), c, d without INVOKE (25), c without RUN (17), d with RUN (17), 4 bytes at c's ADDRESS"
            + " (lowest bit 0) not in its BOUNDS (1, of c);");
        int out = Code.incOffset(1, 1, 63);
        int open5 = Code.inspect(10, 5, 1);
        int open6 = Code.inspect(10, 6, 2);
        order(t, "c no TAG", 0, 2, 32 * 5 + 2, out, Code.inspect(11, 5, 1), Code.inspect(11, 6, 2));
        order(t, "d no TAG", 0, 2, 32 * 6 + 2, out, open5, Code.inspect(11, 6, 2));
        order(t, "c open", 0, 2, 32 * 5 + 3, out, open5, open6);
        order(t, "d open", 0, 2, 32 * 6 + 3, out, seal(5, 1, 3), open6);
        order(t, "two TYPES", 0, 2, 32 * 5 + 4, out, seal(5, 1, 3), seal(6, 2, 4));
        order(t, "c without INVOKE", 4095 - 258, 2, 32 * 5 + 25, out, seal(5, 1, 3), seal(6, 2, 3));
        order(t, "d without INVOKE", 4093, 4095 - 256, 32 * 6 + 25, out, seal(5, 1, 3), seal(6, 2, 3));
        order(t, "c without RUN", 4093, 4095, 32 * 5 + 17, out, seal(5, 1, 3), seal(6, 2, 3));
        order(t, "d with RUN", 4095, 4095, 32 * 6 + 17, out, seal(5, 1, 3), seal(6, 2, 3));
        order(t, "out of BOUNDS", 258, 256, 32 * 5 + 1, out, seal(5, 1, 3), seal(6, 2, 3));
    }

    private static void order(Tests t, String what, int ofCode, int ofData, int value, int... code) {
        Bench b = invoke(t, ofCode, ofData, code).dueTrap(what, 28, value, 4 * code.length);
        b.dueNumber(what + ": register 31", 31, 0);
    }

    private static void invokePlaces(Tests t) {
        t.says("4 bytes at c's ADDRESS (lowest bit 0) not in its BOUNDS (1, of c); 0 if that is no multiple of 4; PCC is"
            + " c, open, there; register 31 is d, open.");
        for (int by = -4; by < 70; by++) {
            int x = CODE + by & ~1;
            Bench b = invoke(t, 258, 256, Code.incOffset(1, 1, by), seal(6, 2, 4), seal(5, 1, 4));
            String what = "by " + by;
            if (x < CODE || x > CODE + 60) {
                b.dueTrap(what, 28, 32 * 5 + 1, 12).dueNumber(what + ": register 31", 31, 0);
            } else if (x % 4 != 0) {
                b.dueTrap(what, 0, x, 12).dueNumber(what + ": register 31", 31, 0);
            } else {
                b.dueNoTrap(what, x).dueCap(what, 32, true, x, CODE, 64).dueKind(what, 32, 258, 15);
                b.dueCap(what + ": data", 31, true, DATA, DATA, 64).dueKind(what + ": data", 31, 256, 15);
            }
        }
        for (int length = 60; length < 64; length++) {
            for (int by = 56; by < 62; by++) {
                int[] code = {Code.incOffset(1, 1, by), seal(6, 2, 4), seal(5, 1, 4), Code.invoke(5, 6)};
                Bench b = invoke(t, length, 258, 256, code);
                if (by < 58) {
                    b.dueNoTrap("the last but one of " + length, CODE + 56);
                } else if (by < 60 && length >= 62) {
                    b.dueTrap("no multiple, of " + length, 0, CODE + 58, 12);
                } else {
                    b.dueTrap("the last of " + length, 28, 32 * 5 + 1, 12);
                }
            }
        }
    }

    private static void invokeRegisters(Tests t) {
        t.says("126 (rd 1) CInvoke:");
        for (int rd = 0; rd < 32; rd++) {
            int code = Code.cap(126, rd, 5, 6);
            Bench b = new Bench(t, seal(5, 1, 4), seal(6, 2, 4), code).root(1, CODE, 64, 258).root(2, DATA, 64, 256);
            b.root(4, 11, 1, 4095).run(3);
            if (rd == 1) {
                b.dueNoTrap("rd 1", CODE).dueCap("register 1 is not linked in", 1, true, CODE, CODE, 64);
            } else {
                b.dueTrap("rd " + rd, 2, code, 8);
            }
        }
        int[] own = {seal(31, 1, 4), seal(6, 2, 4), Code.invoke(31, 6)};
        Bench b = new Bench(t, own).root(1, CODE, 64, 258).root(2, DATA, 64, 256).root(4, 11, 1, 4095).run(3);
        b.dueNoTrap("c is register 31", CODE).dueCap("PCC", 32, true, CODE, CODE, 64);
        b.dueCap("register 31", 31, true, DATA, DATA, 64);
        new Bench(t, Code.invoke(0, 0)).run(1).dueTrap("register 0", 28, 2, 0);
    }
}
