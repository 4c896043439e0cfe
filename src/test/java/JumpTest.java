/** Promise 5: branches, JAL, JALR. */
public final class JumpTest {
    private static final int MIN = Integer.MIN_VALUE;

    public static void main(String[] args) {
        Tests t = new Tests("promise 5: jumps");
        branches(t);
        directJumps(t);
        registerJumps(t);
        gates(t);
        t.end();
    }

    private static void branches(Tests t) {
        int[][] pairs = {{5, 5}, {5, 6}, {6, 5}, {-1, 1}, {1, -1}, {MIN, Integer.MAX_VALUE}};
        boolean[][] taken = {
            {true, false, false, false, false, false}, {false, true, true, true, true, true}, null, null,
            {false, true, false, true, false, true}, {true, false, true, false, true, false},
            {false, true, false, false, true, false}, {true, false, true, true, false, true}};
        for (int function = 0; function < 8; function++) {
            for (int k = 0; k < pairs.length; k++) {
                int code = Code.branch(function, 5, 6, 64);
                Bench b = new Bench(t, code).number(5, pairs[k][0]).number(6, pairs[k][1]).run(1);
                if (taken[function] == null) {
                    b.dueTrap("no such branch", 2, code, 0);
                } else {
                    b.dueNoTrap("branch " + function + ", " + k, taken[function][k] ? 64 : 4);
                }
            }
        }
        farBranch(t, 4094 & ~3, true);
        farBranch(t, -4096, true);
        new Bench(t, Code.branch(0, 0, 0, 2)).run(1).dueTrap("a branch to no multiple", 0, 2, 0);
        new Bench(t, Code.branch(1, 0, 0, 2)).run(1).dueNoTrap("a branch not taken to no multiple", 4);
        new Bench(t, Code.branch(0, 0, 0, -2)).run(1).dueTrap("bounds come first", 28, 1025, 0);
    }

    private static void farBranch(Tests t, int by, boolean taken) {
        Bench b = new Bench(t);
        b.core.word(1024, Code.branch(0, 0, 0, by));
        b.core.word(0, Code.jal(0, 4096));
        b.run(2).dueNoTrap("a branch by " + by, 4096 + by);
    }

    private static void directJumps(Tests t) {
        Bench b = new Bench(t, Code.NOP, Code.jal(1, 2044)).run(2);
        b.dueNoTrap("JAL", 2048).dueCap("its link", 1, true, 8, 0, 16384).dueKind("its link", 1, 4095, 14);
        Bench back = new Bench(t);
        back.core.word(0, Code.jal(0, 16376));
        back.core.word(4094, Code.jal(5, -16372));
        back.run(2).dueNoTrap("JAL back", 4).dueNumber("no link in register 0", 0, 0);
        back.dueCap("link at the end", 5, true, 16380, 0, 16384);
        new Bench(t, Code.jal(1, 16384)).run(1).dueTrap("JAL out of bounds", 28, 1025, 0).dueNumber("no link", 1, 0);
        new Bench(t, Code.jal(1, 16380)).run(1).dueNoTrap("JAL to the last word", 16380);
        new Bench(t, Code.jal(1, 6)).run(1).dueTrap("JAL to no multiple", 0, 6, 0).dueNumber("no link", 1, 0);
        new Bench(t, Code.jal(1, -1048576)).run(1).dueTrap("JAL far", 28, 1025, 0);
        Bench cut = new Bench(t, Code.jal(1, 8)).root(32, 0, 11, 4095).run(1);
        cut.dueTrap("four bytes at the end", 28, 1025, 0);
        Bench beyond = new Bench(t, Code.jal(1, 16384)).root(32, 0, 32768, 4095).run(2);
        beyond.dueTrap("a jump beyond memory is made", 1, 16384, 16384);
    }

    private static void registerJumps(Tests t) {
        Bench b = new Bench(t, Code.jalr(5, 6, 9)).root(6, 1024, 64, Bench.RUN | Bench.GLOBAL).run(1);
        b.dueNoTrap("JALR, lowest bit 0", 1032).dueCap("PCC", 32, true, 1032, 1024, 64).dueKind("PCC", 32, 3, 15);
        b.dueCap("link", 5, true, 4, 0, 16384).dueKind("link", 5, 4095, 14);
        Bench own = new Bench(t, Code.jalr(6, 6, -4)).root(6, 1024, 64, Bench.ALL).number(7, 0).run(1);
        own.dueTrap("before its bounds", 28, 32 * 6 + 1, 0).dueCap("no link", 6, true, 1024, 1024, 64);
        Bench same = new Bench(t, Code.jalr(6, 6, 4)).root(6, 1024, 64, Bench.ALL).run(1);
        same.dueNoTrap("JALR by its link register", 1028).dueCap("link there", 6, true, 4, 0, 16384);
        new Bench(t, Code.jalr(5, 6, 62)).root(6, 1024, 64, Bench.ALL).run(1).dueTrap("last bytes", 28, 193, 0);
        new Bench(t, Code.jalr(5, 6, 60)).root(6, 1024, 64, Bench.ALL).run(1).dueNoTrap("last word", 1084);
        new Bench(t, Code.jalr(5, 6, 6)).root(6, 1024, 64, Bench.ALL).run(1).dueTrap("no multiple", 0, 1030, 0);
        new Bench(t, Code.jalr(5, 6, 7)).root(6, 1024, 64, Bench.ALL).run(1).dueTrap("no multiple", 0, 1030, 0);
        new Bench(t, Code.jalr(5, 6, 0)).number(6, 8).run(1).dueTrap("no TAG", 28, 194, 0);
        new Bench(t, Code.jalr(5, 6, 99)).root(6, 1024, 64, Bench.ALL - Bench.RUN).run(1).dueTrap("no RUN", 28, 209, 0);
        for (int function = 1; function < 8; function++) {
            int code = Code.jalr(5, 6, 0) | function << 12;
            new Bench(t, code).root(6, 1024, 64, Bench.ALL).run(1).dueTrap("no such JALR", 2, code, 0);
        }
    }

    private static void gates(Tests t) {
        int seal = Code.inspect(17, 6, 6);
        Bench b = new Bench(t, seal, Code.jalr(1, 6, 0)).root(6, 1024, 64, Bench.ALL).run(2);
        b.dueNoTrap("through a gate", 1024).dueKind("PCC behind a gate", 32, 4095, 15);
        b.dueCap("PCC behind a gate", 32, true, 1024, 1024, 64);
        Bench by = new Bench(t, seal, Code.jalr(1, 6, 4)).root(6, 1024, 64, Bench.ALL).run(2);
        by.dueTrap("a gate and an immediate", 28, 195, 4);
        // Back by the link, which is a gate: the linked PCC is open again.
        Bench back = new Bench(t, Code.jal(1, 8), Code.ECALL, Code.jalr(0, 1, 0)).run(2);
        back.dueNoTrap("back by the link", 4).dueKind("PCC", 32, 4095, 15);
        int[] sealing = {Code.cap(11, 6, 6, 7), Code.jalr(1, 6, 0)};
        Bench sealed = new Bench(t, sealing).root(6, 1024, 64, Bench.ALL).root(7, 0, 16, Bench.ALL).run(2);
        sealed.dueTrap("sealed", 28, 195, 4);
        // Of a gate without RUN the TYPE is fine, so RUN is what is missed: no such gate can have a TAG but a built one.
        int[] built = {Code.inspect(17, 7, 6), Code.cap(29, 7, 8, 7), Code.jalr(1, 7, 0)};
        Bench noRun = new Bench(t, built).root(6, 1024, 64, 1).root(8, 0, 16384, Bench.ALL).run(3);
        noRun.dueTrap("a gate without RUN", 28, 32 * 7 + 17, 8);
    }
}
