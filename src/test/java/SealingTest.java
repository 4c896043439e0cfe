/** Promise 5: CSeal, CUnseal and CInvoke. */
public final class SealingTest {
    private static final int CODE = 1024;
    private static final int DATA = 8192;
    private static final int BOTH = Bench.SEAL | Bench.UNSEAL;

    public static void main(String[] args) {
        Tests t = new Tests("promise 5: sealing");
        types(t);
        sealingFaults(t);
        unsealing(t);
        unsealingFaults(t);
        invoking(t);
        invokingFaults(t);
        invokingPlaces(t);
        t.end();
    }

    /** Register 1 is code, 2 data, 3 all types from 0 to 15 with SEAL and UNSEAL, not GLOBAL. */
    private static Bench bench(Tests t, int permsOfCode, int permsOfData, int... code) {
        return new Bench(t, code).root(1, CODE, 64, permsOfCode).root(2, DATA, 64, permsOfData).root(3, 0, 16, BOTH);
    }

    private static int seal(int rd, int c, int d) {
        return Code.cap(11, rd, c, d);
    }

    private static int unseal(int rd, int c, int d) {
        return Code.cap(12, rd, c, d);
    }

    private static void types(Tests t) {
        for (int type = 0; type < 16; type++) {
            Bench b = bench(t, 7, 5, Code.incOffset(4, 3, type), seal(5, 1, 4), seal(6, 5, 4)).run(3);
            b.dueCap("sealed " + type, 5, type < 12, CODE, CODE, 64).dueKind("sealed " + type, 5, 7, type);
            b.dueCap("sealed twice", 6, false, CODE, CODE, 64);
        }
        Bench far = bench(t, 7, 5, Code.incOffset(4, 3, 21), seal(5, 1, 4)).run(2);
        far.dueCap("21", 5, false, CODE, CODE, 64).dueKind("21", 5, 7, 5);
        Bench below = bench(t, 7, 5, Code.incOffset(4, 3, -1), seal(5, 1, 4)).run(2);
        below.dueCap("-1", 5, false, CODE, CODE, 64).dueKind("-1", 5, 7, 15);
        for (int at = 2; at < 10; at++) {
            Bench some = new Bench(t, Code.incOffset(4, 4, at - 4), seal(5, 1, 4)).root(1, CODE, 64, 7);
            some.root(4, 4, 3, BOTH).run(2).dueCap("types 4 to 6: " + at, 5, at >= 4 && at < 7, CODE, CODE, 64);
        }
    }

    private static void noSeal(Tests t, String what, int permsOfTypes, int... code) {
        Bench b = new Bench(t, code).root(1, CODE, 64, 7).root(2, 0, 16, permsOfTypes).run(code.length);
        b.dueNoTrap(what, 4 * code.length).dueCap(what, 5, false, CODE, CODE, 64).dueKind(what, 5, 7, 0);
    }

    private static void sealingFaults(Tests t) {
        noSeal(t, "no SEAL", 4095 - Bench.SEAL, seal(5, 1, 2));
        noSeal(t, "no TAG", 4095, Code.inspect(11, 1, 1), seal(5, 1, 2));
        noSeal(t, "types without TAG", 4095, Code.inspect(11, 2, 2), seal(5, 1, 2));
        noSeal(t, "a gate", 4095, Code.inspect(17, 1, 1), seal(5, 1, 2));
        noSeal(t, "types that are a gate", 4095, Code.inspect(17, 2, 2), seal(5, 1, 2));
        noSeal(t, "types that are sealed", 4095, seal(2, 2, 2), seal(5, 1, 2));
    }

    private static void unsealing(Tests t) {
        for (int type = 0; type < 12; type++) {
            Bench b = bench(t, 6, 5, Code.incOffset(4, 3, type), seal(5, 1, 4), unseal(6, 5, 4)).run(3);
            b.dueCap("unsealed " + type, 6, true, CODE, CODE, 64).dueKind("unsealed " + type, 6, 6, 15);
        }
        Bench local = bench(t, 7, 5, seal(5, 1, 3), unseal(6, 5, 3)).run(2);
        local.dueKind("GLOBAL only if both are", 6, 6, 15).dueCap("unsealed", 6, true, CODE, CODE, 64);
        Bench global = bench(t, 7, 5, seal(5, 1, 4), unseal(6, 5, 4)).root(4, 0, 16, BOTH | 1).run(2);
        global.dueKind("GLOBAL as both are", 6, 7, 15);
        Bench notIt = bench(t, 6, 5, seal(5, 1, 4), unseal(6, 5, 4)).root(4, 0, 16, BOTH | 1).run(2);
        notIt.dueKind("GLOBAL is not given", 6, 6, 15);
    }

    private static void noUnseal(Tests t, String what, int permsOfTypes, int dueAddress, int... code) {
        Bench b = new Bench(t, code).root(1, CODE, 64, 7).root(2, 0, 16, permsOfTypes).root(3, 5, 4, BOTH);
        b.run(code.length).dueNoTrap(what, 4 * code.length);
        t.due(what + ": TAG", b.core.told(6, 0), 0);
        t.due(what + ": ADDRESS", b.core.told(6, 1), dueAddress);
        b.dueKind(what, 6, (permsOfTypes & 1) == 0 ? 6 : 7, 15);
    }

    private static void unsealingFaults(Tests t) {
        int five = seal(5, 1, 3);
        int at5 = Code.incOffset(2, 2, 5);
        noUnseal(t, "no UNSEAL", 4095 - Bench.UNSEAL, CODE, five, at5, unseal(6, 5, 2));
        noUnseal(t, "another type", 4095, CODE, five, unseal(6, 5, 2));
        noUnseal(t, "no TAG", 4095, CODE, five, at5, Code.inspect(11, 5, 5), unseal(6, 5, 2));
        noUnseal(t, "types without TAG", 4094, CODE, five, at5, Code.inspect(11, 2, 2), unseal(6, 5, 2));
        noUnseal(t, "types that are a gate", 4095, CODE, five, at5, Code.inspect(17, 2, 2), unseal(6, 5, 2));
        noUnseal(t, "types that are sealed", 4095, CODE, five, at5, seal(2, 2, 3), unseal(6, 5, 2));
        noUnseal(t, "open", 4095, CODE, Code.incOffset(2, 2, 15), unseal(6, 1, 2));
        noUnseal(t, "a gate", 4095, CODE, Code.incOffset(2, 2, 14), Code.inspect(17, 5, 1), unseal(6, 5, 2));
        noUnseal(t, "out of bounds", 4095, CODE, five, Code.setBounds(2, 2, 5), Code.incOffset(2, 2, 5), unseal(6, 5, 2));
    }

    private static void invoking(Tests t) {
        int[] code = {seal(5, 1, 3), seal(6, 2, 3), Code.invoke(5, 6)};
        Bench b = bench(t, Bench.RUN | Bench.INVOKE, Bench.INVOKE, code).number(1 + 29, 3).run(3);
        b.dueNoTrap("invoked", CODE).dueCap("PCC", 32, true, CODE, CODE, 64).dueKind("PCC", 32, 258, 15);
        b.dueCap("data", 31, true, DATA, DATA, 64).dueKind("data", 31, 256, 15);
        b.dueKind("the sealed code stays", 5, 258, 0).dueKind("the sealed data stay", 6, 256, 0);
        b.dueCap("register 1 stays", 1, true, CODE, CODE, 64);
        int[] by31 = {seal(31, 1, 3), seal(6, 2, 3), Code.invoke(31, 6)};
        Bench own = bench(t, 258, 256, by31).run(3).dueNoTrap("by register 31", CODE);
        own.dueCap("data", 31, true, DATA, DATA, 64).dueCap("PCC", 32, true, CODE, CODE, 64);
        int[] between = {seal(5, 1, 3), seal(6, 2, 3), Code.inspect(10, 7, 1), Code.invoke(5, 6)};
        Bench later = bench(t, 258, 256, between).run(4).dueNoTrap("later", CODE);
        later.dueCap("data, later", 31, true, DATA, DATA, 64).dueKind("data, later", 31, 256, 15);
        for (int rd = 0; rd < 32; rd++) {
            int none = Code.cap(126, rd, 5, 6);
            if (rd != 1) {
                bench(t, 258, 256, seal(5, 1, 3), seal(6, 2, 3), none).run(3).dueTrap("rd " + rd, 2, none, 8);
            }
        }
    }

    private static void noInvoke(Tests t, String what, int ofCode, int ofData, int value, int... code) {
        int[] all = new int[code.length + 1];
        System.arraycopy(code, 0, all, 0, code.length);
        all[code.length] = Code.invoke(5, 6);
        Bench b = bench(t, ofCode, ofData, all).run(all.length);
        b.dueTrap(what, 28, value, 4 * code.length).dueNumber("register 31", 31, 0);
    }

    /** In the document's order; each has all the faults behind it too, where one capability can have them. */
    private static void invokingFaults(Tests t) {
        int c = 32 * 5;
        int d = 32 * 6;
        int copy5 = Code.inspect(10, 5, 1);
        int copy6 = Code.inspect(10, 6, 2);
        int clear5 = Code.inspect(11, 5, 1);
        int clear6 = Code.inspect(11, 6, 2);
        int seal5 = seal(5, 1, 3);
        int seal6 = seal(6, 2, 3);
        int other = Code.incOffset(4, 3, 1);
        noInvoke(t, "c no TAG", 0, 2, c + 2, clear5, clear6);
        noInvoke(t, "d no TAG", 0, 2, d + 2, copy5, clear6);
        noInvoke(t, "c open", 0, 2, c + 3, copy5, copy6);
        noInvoke(t, "c a gate", 2, 2, c + 3, Code.inspect(17, 5, 1), copy6);
        noInvoke(t, "d open", 0, 2, d + 3, seal5, copy6);
        noInvoke(t, "d a gate", 0, 2, d + 3, seal5, Code.inspect(17, 6, 2));
        noInvoke(t, "other types", 0, 2, c + 4, other, seal5, seal(6, 2, 4));
        noInvoke(t, "c without INVOKE", 0, 2, c + 25, seal5, seal6);
        noInvoke(t, "d without INVOKE", 256, 2, d + 25, seal5, seal6);
        noInvoke(t, "c without RUN", 256, 258, c + 17, seal5, seal6);
        noInvoke(t, "d with RUN", 258, 258, d + 17, seal5, seal6);
        noInvoke(t, "out of bounds", 258, 256, c + 1, Code.incOffset(1, 1, 64), seal5, seal6);
        noInvoke(t, "half out of bounds", 258, 256, c + 1, Code.incOffset(1, 1, 62), seal5, seal6);
        noInvoke(t, "before its bounds", 258, 256, c + 1, Code.incOffset(1, 1, -1), seal5, seal6);
    }

    private static void invokingPlaces(Tests t) {
        int seal5 = seal(5, 1, 3);
        int seal6 = seal(6, 2, 3);
        int go = Code.invoke(5, 6);
        bench(t, 258, 256, Code.incOffset(1, 1, 2), seal5, seal6, go).run(4).dueTrap("no multiple", 0, CODE + 2, 12);
        bench(t, 258, 256, Code.incOffset(1, 1, 7), seal5, seal6, go).run(4).dueTrap("no multiple", 0, CODE + 6, 12);
        Bench odd = bench(t, 258, 256, Code.incOffset(1, 1, 5), seal5, seal6, go).run(4);
        odd.dueNoTrap("lowest bit 0", CODE + 4).dueCap("PCC", 32, true, CODE + 4, CODE, 64);
        Bench last = bench(t, 258, 256, Code.incOffset(1, 1, 61), seal5, seal6, go).run(4);
        last.dueNoTrap("the last word", CODE + 60);
    }
}
