/** The edges that Terms 3 names of branches, JAL and JALR. */
public final class JumpEdgeTest {
    private static final int CODE = 1024;
    private static final int MIN = Integer.MIN_VALUE;
    private static final int MAX = Integer.MAX_VALUE;

    public static void main(String[] args) {
        Tests t = new Tests("Terms 3, edges of jumps");
        directPlaces(t);
        branchPlaces(t);
        branchNumbers(t);
        farthest(t);
        links(t);
        jalrPlaces(t);
        jalrImmediates(t);
        jalrKinds(t);
        jalrOrder(t);
        jalrMoves(t);
        t.end();
    }

    /** PCC has 64 bytes at 1024, stands in their midst, and goes by 'by' from there. */
    private static Bench jump(Tests t, int length, int code) {
        Bench b = new Bench(t, Code.incOffset(1, 1, 32), Code.special(0, 31, 1), Code.MRET);
        b.core.word(CODE / 4 + 8, code);
        return b.root(1, CODE, length, Bench.RUN).number(5, 77).run(4);
    }

    private static void place(Tests t, String what, Bench b, int by, int length, int linked) {
        int x = CODE + 32 + by;
        if (x < CODE || x + 4 > CODE + length) {
            b.dueTrap(what, 28, 1025, CODE + 32).dueNumber(what + ": no link", 5, 77);
        } else if (x % 4 != 0) {
            b.dueTrap(what, 0, x, CODE + 32).dueNumber(what + ": no link", 5, 77);
        } else {
            b.dueNoTrap(what, x).dueCap(what + ": PCC", 32, true, x, CODE, length).dueKind(what, 32, Bench.RUN, 15);
            t.due(what + ": link", b.address(5), linked);
        }
    }

    private static void directPlaces(Tests t) {
        t.says("A jump to x (of a branch that is taken, JAL) wants 4 bytes at x in PCC's BOUNDS (else 28, VALUE 1025),"
            + " then x a multiple of 4 (else 0, VALUE x); PCC is MOVED there.");
        for (int by = -40; by <= 36; by += 2) {
            place(t, "JAL by " + by, jump(t, 64, Code.jal(5, by)), by, 64, CODE + 36);
        }
        for (int length = 61; length < 64; length++) {
            place(t, "JAL to the last of " + length, jump(t, length, Code.jal(5, 28)), 28, length, CODE + 36);
            place(t, "JAL to the one before", jump(t, length, Code.jal(5, 24)), 24, length, CODE + 36);
        }
        Bench beyond = new Bench(t, Code.jal(5, 16384)).root(32, 0, 32768, 4095).run(1);
        beyond.dueNoTrap("a jump beyond MEMORY", 16384).run(1).dueTrap("what is there", 1, 16384, 16384);
        new Bench(t, Code.jal(5, -4)).run(1).dueTrap("a jump before 0", 28, 1025, 0);
        new Bench(t, Code.branch(0, 0, 0, -4)).run(1).dueTrap("a branch before 0", 28, 1025, 0);
    }

    private static void branchPlaces(Tests t) {
        t.says("(of a branch that is taken, JAL)");
        int[][] taken = {{0, 0, 0}, {1, 0, 5}, {4, 0, 5}, {5, 5, 0}, {6, 0, 5}, {7, 5, 0}};
        int[][] not = {{0, 0, 5}, {1, 0, 0}, {4, 5, 0}, {5, 0, 5}, {6, 5, 0}, {7, 0, 5}};
        for (int k = 0; k < taken.length; k++) {
            for (int by : new int[] {-34, -32, -30, -4, 0, 2, 4, 26, 28, 30, 32}) {
                int go = Code.branch(taken[k][0], taken[k][1], taken[k][2], by);
                place(t, "branch " + taken[k][0] + " by " + by, jump(t, 64, go), by, 64, 77);
                int stay = Code.branch(not[k][0], not[k][1], not[k][2], by);
                jump(t, 64, stay).dueNoTrap("branch " + not[k][0] + " not taken by " + by, CODE + 36);
            }
        }
    }

    private static void branchNumbers(Tests t) {
        t.says("JAL, branches, OP and OP-IMM,");
        int[][] pairs = {{0, 0}, {0, 1}, {1, 0}, {MAX, MIN}, {MIN, MAX}, {-1, 0}, {0, -1}, {MIN, MIN}, {-1, -1},
            {MAX, MAX}, {MIN, 0}, {MAX, 0}, {-2, -1}, {-1, -2}};
        for (int[] p : pairs) {
            long a = Integer.toUnsignedLong(p[0]);
            long b = Integer.toUnsignedLong(p[1]);
            taken(t, 0, p, p[0] == p[1]);
            taken(t, 1, p, p[0] != p[1]);
            taken(t, 4, p, p[0] < p[1]);
            taken(t, 5, p, p[0] >= p[1]);
            taken(t, 6, p, a < b);
            taken(t, 7, p, a >= b);
        }
        for (int function = 2; function < 4; function++) {
            int code = Code.branch(function, 0, 0, 8);
            new Bench(t, code).run(1).dueTrap("no such branch", 2, code, 0);
        }
    }

    private static void taken(Tests t, int function, int[] pair, boolean due) {
        Bench b = new Bench(t, Code.branch(function, 5, 6, 64)).number(5, pair[0]).number(6, pair[1]).run(1);
        b.dueNoTrap("branch " + function + " of " + pair[0] + ", " + pair[1], due ? 64 : 4);
    }

    private static void farthest(Tests t) {
        t.says("Of RV32I (the manual of 2019): LUI, AUIPC (PCC MOVED by as much), JAL, branches,");
        from(t, 8192, Code.branch(0, 0, 0, 4092), 12284);
        from(t, 8192, Code.branch(0, 0, 0, -4096), 4096);
        from(t, 8192, Code.branch(0, 0, 0, 2048), 10240);
        from(t, 8192, Code.branch(0, 0, 0, -2048), 6144);
        from(t, 8192, Code.jal(0, 2048), 10240);
        from(t, 8192, Code.jal(0, 4096), 12288);
        from(t, 8192, Code.jal(0, -8192), 0);
        // As far as JAL goes: in a PCC that has 2^21 bytes.
        Bench up = new Bench(t, Code.jal(0, 1048572)).root(32, 0, 1 << 21, 4095).run(1);
        up.dueNoTrap("JAL as far as it goes", 1048572);
        Bench down = new Bench(t, Code.jal(0, -1048576)).root(32, 0, 1 << 21, 4095).run(1);
        down.dueTrap("JAL down as far", 28, 1025, 0);
        new Bench(t, Code.branch(0, 0, 0, 4094)).run(1).dueTrap("a branch by 4094", 0, 4094, 0);
        new Bench(t, Code.jal(0, 1048574)).root(32, 0, 1 << 21, 4095).run(1).dueTrap("JAL by 1048574", 0, 1048574, 0);
    }

    private static void from(Tests t, int at, int code, int due) {
        Bench b = new Bench(t, Code.cap(16, 1, 1, 2), Code.special(0, 31, 1), Code.MRET).root(1, 0, 16384, 4095);
        b.core.word(at / 4, code);
        b.number(2, at).run(4).dueNoTrap("from " + at + " by " + Integer.toHexString(code), due);
    }

    private static void links(Tests t) {
        t.says("What is linked is PCC MOVED behind the jump, then TYPE 14.");
        Bench b = new Bench(t, Code.jal(5, 0)).root(32, 0, 4, 0x803).run(1).dueNoTrap("JAL to itself", 0);
        b.dueCap("its link is at TOP", 5, true, 4, 0, 4).dueKind("its link", 5, 0x803, 14);
        Bench r = new Bench(t, Code.jalr(5, 6, 0)).root(32, 0, 4, 0x803).root(6, CODE, 8, 0x7).run(1);
        r.dueCap("the link of JALR", 5, true, 4, 0, 4).dueKind("the link of JALR", 5, 0x803, 14);
        new Bench(t, Code.jal(0, 8)).run(1).dueNoTrap("no link", 8).dueNumber("register 0", 0, 0);
        // The link can be jumped by, once, and what it is in is open again; it cannot be moved.
        int[] code = {Code.jal(5, 12), Code.NOP, Code.NOP, Code.incOffset(6, 5, 4), Code.jalr(0, 5, 0)};
        Bench back = new Bench(t, code).run(3).dueNoTrap("back", 4).dueKind("PCC", 32, 4095, 15);
        back.dueCap("the link moved", 6, false, 8, 0, 16384);
    }

    private static Bench by(Tests t, int immediate, int... code) {
        int[] all = new int[code.length + 1];
        System.arraycopy(code, 0, all, 0, code.length);
        all[code.length] = Code.jalr(5, 6, immediate);
        Bench b = new Bench(t, all).root(6, CODE, 64, Bench.RUN).root(3, 0, 16, 4095).number(5, 77);
        return b.run(all.length);
    }

    private static void jalrPlaces(Tests t) {
        t.says("4 bytes at its ADDRESS and immediate (lowest bit 0) not in its BOUNDS (1); 0 if no multiple of 4;"
            + " PCC is it, open, MOVED there.");
        for (int immediate = -9; immediate < 72; immediate++) {
            int x = CODE + immediate & ~1;
            String what = "JALR by " + immediate;
            Bench b = by(t, immediate);
            if (x < CODE || x > CODE + 60) {
                b.dueTrap(what, 28, 32 * 6 + 1, 0).dueNumber(what + ": no link", 5, 77);
            } else if (x % 4 != 0) {
                b.dueTrap(what, 0, x, 0).dueNumber(what + ": no link", 5, 77);
            } else {
                b.dueNoTrap(what, x).dueCap(what, 32, true, x, CODE, 64).dueKind(what, 32, Bench.RUN, 15);
                b.dueCap(what + ": link", 5, true, 4, 0, 16384).dueKind(what + ": link", 5, 4095, 14);
            }
        }
        for (int length = 60; length < 64; length++) {
            Bench last = new Bench(t, Code.jalr(5, 6, 56)).root(6, CODE, length, Bench.RUN).run(1);
            last.dueNoTrap("the last but one of " + length, CODE + 56);
            Bench cut = new Bench(t, Code.jalr(5, 6, 60)).root(6, CODE, length, Bench.RUN).run(1);
            cut.dueTrap("the last of " + length, 28, 32 * 6 + 1, 0);
        }
        Bench beyond = new Bench(t, Code.jalr(5, 6, 0)).root(6, 16384, 8, Bench.RUN).run(1);
        beyond.dueNoTrap("JALR beyond MEMORY", 16384).run(1).dueTrap("what is there", 1, 16384, 16384);
    }

    private static void jalrImmediates(Tests t) {
        t.says("JALR jumps by register cs1:");
        new Bench(t, Code.jalr(5, 6, 2044)).root(6, 4096, 4096, 4095).run(1).dueNoTrap("by 2044", 6140);
        new Bench(t, Code.jalr(5, 6, 2047)).root(6, 4096, 4096, 4095).run(1).dueTrap("by 2047", 0, 6142, 0);
        int[] back = {Code.incOffset(6, 6, 2047), Code.incOffset(6, 6, 1), Code.jalr(5, 6, -2048)};
        new Bench(t, back).root(6, 4096, 4096, 4095).run(3).dueNoTrap("by -2048", 4096);
        // Round the end of the space: to the other end, which is not in BOUNDS, or back to where it is.
        new Bench(t, Code.jalr(5, 6, 16)).root(6, -16, 16, 4095).run(1).dueTrap("over the end", 28, 193, 0);
        new Bench(t, Code.jalr(5, 6, -4)).root(6, 0, 16, 4095).run(1).dueTrap("before 0", 28, 193, 0);
        Bench round = new Bench(t, Code.incOffset(6, 6, -8), Code.jalr(5, 6, 16)).root(6, 0, 16, 4095).run(2);
        round.dueNoTrap("from before 0", 8).dueCap("from before 0", 32, true, 8, 0, 16);
        for (int function = 1; function < 8; function++) {
            int code = Code.jalr(5, 6, 0) | function << 12;
            new Bench(t, code).root(6, CODE, 64, 4095).run(1).dueTrap("no such JALR", 2, code, 0);
        }
    }

    private static void jalrKinds(Tests t) {
        t.says("28 if no TAG (2), a TYPE below 14, or a gate and an immediate that is not 0 (3),");
        int gate = Code.inspect(17, 6, 6);
        by(t, 0, gate).dueNoTrap("a gate", CODE).dueKind("a gate is opened", 32, Bench.RUN, 15);
        for (int immediate : new int[] {1, -1, 4, -4, 2047, -2048}) {
            by(t, immediate, gate).dueTrap("a gate and " + immediate, 28, 32 * 6 + 3, 4).dueNumber("no link", 5, 77);
        }
        by(t, 1).dueNoTrap("open, and 1", CODE);
        for (int type = 0; type < 12; type++) {
            Bench b = by(t, 0, Code.incOffset(3, 3, type), Code.cap(11, 6, 6, 3));
            b.dueTrap("sealed by " + type, 28, 32 * 6 + 3, 8).dueNumber("no link", 5, 77);
        }
        by(t, 0, Code.inspect(11, 6, 6)).dueTrap("no TAG", 28, 32 * 6 + 2, 4).dueNumber("no link", 5, 77);
        for (int type = 12; type < 16; type++) {
            Bench b = new Bench(t, Code.jalr(5, 6, 0));
            b.core.put(6, CODE, (type ^ 15) << 16 | Bench.RUN << 20);
            b.run(1).dueTrap("no TAG, TYPE " + type, 28, 32 * 6 + 2, 0);
        }
    }

    private static void jalrOrder(Tests t) {
        t.says("no RUN (17), 4 bytes at its ADDRESS");
        int seal = Code.cap(11, 6, 6, 3);
        int clear = Code.inspect(11, 6, 6);
        int[][] codes = {{seal, clear}, {seal, Code.NOP}, {Code.NOP, Code.NOP}};
        int[] values = {2, 3, 17};
        for (int k = 0; k < 3; k++) {
            Bench b = new Bench(t, codes[k][0], codes[k][1], Code.jalr(5, 6, 99)).root(6, CODE, 64, 4095 - Bench.RUN);
            b.root(3, 0, 16, 4095).run(3).dueTrap("the first of several", 28, 32 * 6 + values[k], 8);
        }
        // A gate without RUN that was built: RUN is missed behind TYPE.
        int[] built = {Code.inspect(17, 7, 6), Code.cap(29, 7, 3, 7), Code.jalr(5, 7, 0), Code.jalr(5, 7, 4)};
        Bench g = new Bench(t, built).root(6, CODE, 64, 1).root(3, 0, 16384, 4095).run(3);
        g.dueTrap("a gate without RUN", 28, 32 * 7 + 17, 8);
        built[2] = built[3];
        Bench i = new Bench(t, built).root(6, CODE, 64, 1).root(3, 0, 16384, 4095).run(3);
        i.dueTrap("a gate without RUN, and 4", 28, 32 * 7 + 3, 8);
        // BOUNDS come before multiples.
        Bench m = new Bench(t, Code.jalr(5, 6, 62)).root(6, CODE, 64, 4095).run(1);
        m.dueTrap("BOUNDS first", 28, 193, 0);
    }

    private static void jalrMoves(Tests t) {
        t.says("PCC is it, open, MOVED there.");
        // A gate whose ADDRESS is odd: its lowest bit counts as 0.
        int[] odd = {Code.incOffset(6, 6, 5), Code.inspect(17, 6, 6)};
        by(t, 0, odd).dueNoTrap("an odd gate", CODE + 4).dueCap("an odd gate", 32, true, CODE + 4, CODE, 64);
        int[] two = {Code.incOffset(6, 6, 6), Code.inspect(17, 6, 6)};
        by(t, 0, two).dueTrap("a gate at no multiple", 0, CODE + 6, 8);
        // The register that is jumped by is linked in.
        Bench own = new Bench(t, Code.jalr(6, 6, 4)).root(6, CODE, 64, Bench.RUN).run(1).dueNoTrap("its own link", CODE + 4);
        own.dueCap("its own link", 6, true, 4, 0, 16384).dueCap("PCC", 32, true, CODE + 4, CODE, 64);
    }
}
