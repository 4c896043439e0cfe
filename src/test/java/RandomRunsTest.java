import java.util.ArrayList;
import java.util.Arrays;
import java.util.List;
import java.util.Random;

/** Many runs of calls, drawn from fixed seeds, on CheriCore and on PlainModel: their answers must be the same. */
public final class RandomRunsTest {
    private static final int RUNS = 4000;
    private static final int HANDLER = 3072;
    private static final int CODE = 200;

    /** An object is used for at most 512 calls: this many are drawn, the others look at what has become of it. */
    private static final int CALLS = 380;
    private static final int LOOKED_AT = 60;
    private static final int WORD = 2;
    private static final int ROOT = 3;
    private static final int PUT = 4;
    private static final int RUN = 5;
    private static final int TOLD = 6;
    private static final int MEMORY = 7;
    private static final int TAG = 8;
    private static final int COUNT = 9;
    private static final int PACK = 10;
    private static final int BOUND = 11;
    private static final int[] CAP_NUMBERS = {1, 8, 9, 11, 12, 13, 15, 16, 17, 20, 22, 29, 32, 126, 127};
    private static final int[] INSPECTIONS = {0, 1, 2, 3, 4, 5, 6, 8, 9, 10, 11, 15, 17, 23};
    private static final int[] SPECIALS = {0, 28, 29, 30, 31};

    private final Tests t;
    private final Random random;
    private final long seed;
    private CheriCore core;
    private PlainModel model;
    private final List<int[]> calls = new ArrayList<>();

    private RandomRunsTest(Tests t, long seed) {
        this.t = t;
        this.seed = seed;
        random = new Random(seed);
        core = new CheriCore();
        model = new PlainModel();
    }

    public static void main(String[] args) {
        Tests t = new Tests("random runs");
        long first = args.length > 0 ? Long.parseLong(args[0]) : 1;
        long many = args.length > 1 ? Long.parseLong(args[1]) : RUNS;
        long steps = 0;
        long traps = 0;
        for (long seed = first; seed < first + many && t.wrongs() < 20; seed++) {
            RandomRunsTest one = new RandomRunsTest(t, seed);
            one.play();
            steps += one.core.count(3);
            traps += one.core.count(4);
        }
        System.out.println("random runs: " + steps + " steps, " + traps + " of them traps");
        t.isTrue("runs that do something", steps > 20 * many && traps * 2 < steps);
        t.end();
    }

    private int draw(int n) {
        return random.nextInt(n);
    }

    private boolean once(int in) {
        return random.nextInt(in) == 0;
    }

    private int oneOf(int[] all) {
        return all[draw(all.length)];
    }

    private void play() {
        writeHandler(once(2));
        writeCode();
        callRoot(32, 0, 16384, once(4) ? 4095 - (1 << 2 + draw(10)) : 4095);
        callRoot(33, 4 * HANDLER, 64, once(9) ? draw(4096) : 1026);
        callRoot(35, 0, 16384, once(4) ? draw(4096) | 2 : 4095);
        callRoot(1, 8192 + 8 * draw(8), 64 << draw(6), once(2) ? 4095 : once(2) ? 4093 : draw(4096));
        callRoot(2, once(3) ? 8 * draw(2048) : 4 * draw(64), 16 << draw(8), once(2) ? 4095 : draw(4096));
        callRoot(3, draw(4), 16, once(2) ? 4095 : draw(4096));
        callRoot(4, once(2) ? random.nextInt() : draw(16384), draw(1 << 1 + draw(30)), draw(4096));
        while (calls.size() < CALLS) {
            call();
        }
        compareRegisters();
        compareMemory();
    }

    /** Goes on behind what trapped, or somewhere in the code with the root that MSCRATCHC holds. */
    private void writeHandler(boolean behind) {
        callWord(HANDLER, Code.special(30, behind ? 31 : 30, 0));
        callWord(HANDLER + 1, Code.incOffset(30, 30, behind ? 4 : 4 * draw(CODE)));
        callWord(HANDLER + 2, behind ? Code.special(0, 31, 30) : Code.jalr(0, 30, 0));
        callWord(HANDLER + 3, Code.MRET);
        for (int i = 4; i < 10; i++) {
            callWord(HANDLER + i, instruction());
        }
    }

    private void writeCode() {
        int at = 0;
        while (at < CODE) {
            int[] some = once(6) ? idiom() : new int[] {instruction()};
            for (int one : some) {
                callWord(at++, once(60) ? instruction() : one);
            }
        }
    }

    /** Instructions that do nothing of note unless they stand together. */
    private int[] idiom() {
        int type = Code.incOffset(10, 3, draw(14));
        int code = Code.cap(11, 11, once(5) ? register() : 2, 10);
        int data = Code.cap(11, 12, once(5) ? register() : 1, once(9) ? 3 : 10);
        int held = 8 * draw(8);
        return switch (draw(9)) {
            case 0 -> new int[] {type, code, data, Code.invoke(once(9) ? 12 : 11, once(9) ? 11 : 12)};
            case 1 -> new int[] {type, code, Code.cap(13, 10, 10, 4), Code.cap(12, 9, 11, once(5) ? register() : 10)};
            case 2 -> new int[] {type, data, Code.cap(12, 9, 12, once(5) ? register() : 10)};
            case 3 -> new int[] {Code.store(3, register(), 1, held), Code.load(3, 3 + draw(9), 1, held)};
            case 4 -> new int[] {Code.inspect(11, 9, register()), Code.cap(29, 8, 1 + draw(4), 9)};
            case 5 -> new int[] {Code.inspect(17, 9, 2), Code.jalr(once(2) ? 9 : 8, 9, once(9) ? 4 : 0)};
            case 6 -> new int[] {Code.auipc(9, 0), Code.store(2, register(), 9, 4 * draw(7))};
            case 7 -> new int[] {Code.auipc(9, 0), Code.store(draw(4), register(), 9, 8 * draw(4)), Code.NOP};
            default -> new int[] {Code.store(3, 1, 1, held), Code.store(draw(3), 5, 1, held), Code.load(3, 9, 1, held)};
        };
    }

    private void call() {
        switch (draw(14)) {
            case 0, 1, 2, 3, 4 -> same(RUN, pick(1 + draw(40), 10001, 0, -1), 0, 0, 0);
            case 5, 6 -> same(TOLD, pick(draw(37), 37, -1, 40), pick(draw(7), 7, -1, 99), 0, 0);
            case 7 -> same(MEMORY, index(), 0, 0, 0);
            case 8 -> same(TAG, index(), 0, 0, 0);
            case 9 -> same(COUNT, pick(draw(7), 7, -1, 70), 0, 0, 0);
            case 10 -> same(WORD, index(), instruction(), 0, 0);
            case 11 -> same(PUT, pick(1 + draw(31), 0, 32, -1), number(), once(2) ? random.nextInt() : 0, 0);
            case 12 -> {
                if (once(3)) {
                    same(ROOT, pick(1 + draw(36), 0, 37, -1), number(), draw(1 << draw(31)) - (once(9) ? 5 : 0),
                        pick(draw(4096), 4096, -1, 9999));
                } else {
                    jumpBack();
                }
            }
            default -> {
                same(PACK, number(), draw(1 << draw(31)), draw(20) - 1, 0);
                same(BOUND, random.nextInt(), number(), draw(2), 0);
            }
        }
    }

    /** Lets a run that has left its code go on from a place in it, by a word that is written where PCC stands. */
    private void jumpBack() {
        int at = model.regs[32].address();
        if (at >= 0 && at < 4 * HANDLER) {
            same(WORD, at / 4, Code.jal(0, 4 * draw(CODE) - at & ~3), 0, 0);
        }
    }

    private int pick(int ordinary, int wrong, int another, int third) {
        return once(25) ? oneOf(new int[] {wrong, another, third}) : ordinary;
    }

    private int index() {
        return once(25) ? oneOf(new int[] {-1, 4096, 4095, Integer.MIN_VALUE}) : once(2) ? draw(4096) : 2048 + draw(300);
    }

    private int number() {
        return switch (draw(5)) {
            case 0 -> random.nextInt();
            case 1 -> draw(16);
            case 2 -> 8192 + draw(512);
            case 3 -> -draw(100);
            default -> random.nextInt() >>> draw(31);
        };
    }

    private int register() {
        return once(2) ? draw(5) : once(2) ? draw(12) : draw(32);
    }

    private int instruction() {
        int rd = once(40) ? draw(32) : 5 + draw(8);
        int near = once(3) ? draw(4096) - 2048 : 8 * draw(12) + (once(4) ? draw(8) : 0);
        return switch (draw(20)) {
            case 0 -> Code.lui(rd, random.nextInt());
            case 1 -> Code.auipc(rd, once(2) ? draw(4) : random.nextInt());
            case 2 -> Code.jal(once(2) ? 0 : rd, once(9) ? random.nextInt() : 4 * draw(12) - 16 + (once(9) ? 2 : 0));
            case 3 -> Code.jalr(rd, once(2) ? 2 : register(), once(2) ? 0 : once(2) ? 4 * draw(9) : draw(40) - 20);
            case 4, 5 -> Code.branch(draw(8), register(), register(), once(9) ? random.nextInt() : 4 * draw(12) - 8);
            case 6, 7, 8 -> Code.load(once(2) ? 3 : draw(7), rd, once(3) ? register() : 1, near);
            case 9, 10, 11 -> Code.store(once(2) ? 3 : draw(4 + draw(2)), register(), once(3) ? register() : 1, near);
            case 12 -> Code.op(once(3) ? 32 : once(9) ? draw(128) : 0, draw(8), rd, register(), register());
            case 13 -> Code.immediate(draw(8), rd, register(), once(2) ? draw(32) : random.nextInt());
            case 14 -> other(rd);
            case 15 -> Code.incOffset(rd, register(), once(2) ? draw(4096) : draw(16) * 4);
            case 16 -> Code.setBounds(rd, register(), once(2) ? draw(4096) : draw(128));
            default -> capability(rd);
        };
    }

    private int capability(int rd) {
        int number = once(30) ? draw(128) : oneOf(CAP_NUMBERS);
        return switch (number) {
            case 127 -> Code.cap(127, rd, register(), once(9) ? draw(32) : oneOf(INSPECTIONS));
            case 126 -> Code.cap(126, once(9) ? rd : 1, register(), register());
            case 1 -> special(rd, once(9) ? draw(32) : oneOf(SPECIALS));
            case 11, 12 -> Code.cap(number, rd, register(), once(3) ? register() : 3);
            default -> Code.cap(number, rd, register(), register());
        };
    }

    /** MTCC is seldom written: a run whose traps lead nowhere sees nothing more. */
    private int special(int rd, int number) {
        boolean reads = number == 28 ? !once(20) : once(2);
        return Code.special(rd, number, reads ? 0 : register());
    }

    private int other(int rd) {
        return switch (draw(9)) {
            case 0 -> Code.ECALL;
            case 1 -> Code.EBREAK;
            case 2 -> Code.MRET;
            case 3 -> Code.FENCE | draw(1 << 20) << 7 | (once(2) ? draw(8) << 12 : 0) & ~0x7000;
            case 4, 5, 6 -> Code.csr(draw(8), rd, once(9) ? draw(4096) : Code.CAUSE + draw(2), register());
            default -> random.nextInt();
        };
    }

    private void callWord(int i, int w) {
        same(WORD, i, w, 0, 0);
    }

    private void callRoot(int r, int base, int length, int perms) {
        same(ROOT, r, base, length, perms);
    }

    private void same(int... call) {
        calls.add(call);
        String due = answer(true, call);
        String got = answer(false, call);
        t.isTrue("seed " + seed + ": call " + calls.size() + ", " + Arrays.toString(call) + ", answered " + got
            + ", due is " + due, got.equals(due));
    }

    private String answer(boolean ofModel, int[] call) {
        try {
            return String.valueOf(ofModel ? askModel(call) : askCore(call));
        } catch (RuntimeException e) {
            return e.getClass().getSimpleName();
        }
    }

    private long askModel(int[] call) {
        int a = call[1];
        int b = call[2];
        switch (call[0]) {
            case WORD: return model.word(a, b);
            case ROOT: return model.root(a, b, call[3], call[4]);
            case PUT: model.put(a, b, call[3]); return 0;
            case RUN: return model.run(a);
            case TOLD: return model.told(a, b);
            case MEMORY: return model.memory(a);
            case TAG: return model.tag(a) ? 1 : 0;
            case COUNT: return model.count(a);
            case PACK: return model.pack(a, (long) b * (call[3] < 2 ? call[3] : 1));
            case BOUND: return model.bound(a, b, call[3] == 1);
            default: throw new Error("no such call");
        }
    }

    private long askCore(int[] call) {
        int a = call[1];
        int b = call[2];
        switch (call[0]) {
            case WORD: return core.word(a, b);
            case ROOT: return core.root(a, b, call[3], call[4]);
            case PUT: core.put(a, b, call[3]); return 0;
            case RUN: return core.run(a);
            case TOLD: return core.told(a, b);
            case MEMORY: return core.memory(a);
            case TAG: return core.tag(a) ? 1 : 0;
            case COUNT: return core.count(a);
            case PACK: return core.pack(a, (long) b * (call[3] < 2 ? call[3] : 1));
            case BOUND: return core.bound(a, b, call[3] == 1);
            default: throw new Error("no such call");
        }
    }

    private void compareRegisters() {
        for (int what = 0; what < 7; what++) {
            same(COUNT, what, 0, 0, 0);
        }
        for (int r = 0; r < 37; r++) {
            for (int what = 0; what < 3; what++) {
                same(TOLD, r, what, 0, 0);
            }
        }
        t.due("seed " + seed + ": grown()", core.grown(), 0);
        t.due("seed " + seed + ": check()", core.check(), 0);
    }

    /** Plays the same calls on a new object and looks at some of its words, most of them such as are not 0. */
    private void compareMemory() {
        core = new CheriCore();
        for (int[] call : calls.subList(0, CALLS)) {
            answer(false, call);
        }
        int from = draw(4096);
        int looked = 0;
        for (int k = 0; k < 4096 && looked < LOOKED_AT; k++) {
            int i = (from + k) % 4096;
            if (model.words[i] != 0 && (i >= CODE || once(5)) || once(100)) {
                looked++;
                same(MEMORY, i, 0, 0, 0);
                same(TAG, i, 0, 0, 0);
            }
        }
        t.due("seed " + seed + ": check()", core.check(), 0);
    }
}
