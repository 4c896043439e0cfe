/** Promise 13. */
public final class CheckTest {
    public static void main(String[] args) {
        Tests t = new Tests("promise 13");
        everywhere(t);
        swept(t);
        if (Inside.isOurs(new CheriCore())) {
            seen(t);
        }
        t.end();
    }

    private static void seen(Tests t) {
        int held = counted(t, filled(t)) + tagStore(t, filled(t));
        t.isTrue("clean lines and rows: " + held, held > 1 && held < 10);
        t.due("clean lines and rows of a sweep", counted(t, swept(t)) + tagStore(t, swept(t)), 31 + 8);
    }

    /** A capability is stored in half of memory, loaded again, and each third of them is overwritten. */
    private static void everywhere(Tests t) {
        int meta = stored(t).core.told(1, 2);
        for (int from = 0; from < 4096; from += 256) {
            tagsOf(t, stored(t), from);
            wordsOf(t, stored(t), from, meta);
            takenAway(t, stored(t), from);
        }
    }

    private static Bench stored(Tests t) {
        int[] code = {Code.store(3, 1, 1, 0), Code.load(3, 5, 1, 0), Code.cap(20, 6, 5, 1), Code.op(0, 6, 7, 7, 6),
            Code.inspect(4, 6, 5), Code.op(0, 0, 8, 8, 6), Code.incOffset(1, 1, 8), Code.branch(1, 1, 9, -28)};
        Bench b = new Bench(t, code).root(1, 1024, 1024 * 8, 4095).number(9, 9216);
        for (int i = 0; i < 32; i++) {
            b.run(8 * 32);
            t.due("check() in the loop", b.core.check(), 0);
        }
        b.dueNoTrap("1024 stored", 32).dueNumber("loaded is what was stored", 7, 0).dueNumber("TAGS seen", 8, 1024);
        t.due("tags", b.core.count(6), 1024);
        t.due("grown()", b.core.grown(), 0);
        return b;
    }

    private static void tagsOf(Tests t, Bench b, int from) {
        for (int i = from; i < from + 256; i++) {
            t.isTrue("tag of " + i, b.core.tag(i) == (i >= 256 && i < 2304));
        }
    }

    private static void wordsOf(Tests t, Bench b, int from, int meta) {
        for (int i = from; i < from + 256; i++) {
            if (i >= 256 && i < 2304) {
                t.due("word " + i, b.core.memory(i), i % 2 == 0 ? 4 * i : meta);
            }
        }
    }

    private static void takenAway(Tests t, Bench b, int from) {
        int taken = 0;
        for (int i = from; i < from + 252; i += 6) {
            taken += i >= 256 && i < 2304 ? 1 : 0;
            b.core.word(i, 0);
            t.due("check() of a word", b.core.check(), 0);
        }
        for (int i = from; i < from + 252; i++) {
            t.isTrue("tag left at " + i, b.core.tag(i) == (i >= 256 && i < 2304 && (i - from) / 2 % 3 != 0));
        }
        t.due("tags left", b.core.count(6), 1024 - taken);
    }

    private static Bench filled(Tests t) {
        Bench b = new Bench(t, Code.store(3, 1, 1, 32), Code.load(3, 5, 1, 512)).root(1, 8192, 1024, 4095).run(2);
        t.due("nothing wrong", b.core.check(), 0);
        return b;
    }

    /** Reads a word of each line, so that all slots are held by lines that no one wrote, but for that of the loop. */
    private static Bench swept(Tests t) {
        int[] code = new int[16];
        code[0] = Code.jal(0, 32);
        code[8] = Code.load(2, 5, 1, 0);
        code[9] = Code.incOffset(1, 1, 32);
        code[10] = Code.branch(1, 1, 9, -8);
        Bench b = new Bench(t, code).root(1, 0, 16384, 4095).number(9, 16384).run(1 + 3 * 512);
        t.due("nothing wrong", b.core.check(), 0);
        return b;
    }

    /** That it would be seen: what is wrong is put there by hand. Answers how many slots are clean. */
    private static int counted(Tests t, Bench b) {
        int[] lines = (int[]) Inside.of(b.core, "state", "memory", "directory", "lines");
        boolean[] written = (boolean[]) Inside.of(b.core, "state", "memory", "written");
        int[] cached = (int[]) Inside.of(b.core, "state", "memory", "cached");
        int[] tags = (int[]) Inside.of(b.core, "state", "memory", "cachedTags");
        int holding = 0;
        for (int slot = 0; slot < lines.length; slot++) {
            boolean was = written[slot];
            int line = lines[slot];
            written[slot] = false;
            lines[slot] = 500;
            int empty = slot % 2 == 0 ? slot + 1 : slot - 1;
            int lineThere = lines[empty];
            lines[empty] = 500;
            t.isTrue("a line twice", b.core.check() > 0);
            lines[slot] = line;
            lines[empty] = lineThere;
            written[slot] = was;
            t.due("as it was", b.core.check(), 0);
            holding += line >= 0 && !was ? 1 : 0;
            tags[slot] ^= 9;
            t.due("TAGS that no one wrote", b.core.check(), was ? 0 : 2);
            tags[slot] ^= 9;
            for (int k = 0; k < 8; k++) {
                cached[8 * slot + k] ^= 5;
                t.due("a word that no one wrote", b.core.check(), line >= 0 && !was ? 1 : 0);
                cached[8 * slot + k] ^= 5;
            }
        }
        return holding;
    }

    private static int tagStore(Tests t, Bench b) {
        int[] held = (int[]) Inside.of(b.core, "state", "memory", "tagStore", "held");
        int[] cached = (int[]) Inside.of(b.core, "state", "memory", "tagStore", "cached");
        boolean[] written = (boolean[]) Inside.of(b.core, "state", "memory", "tagStore", "written");
        int[] rows = (int[]) Inside.of(b.core, "state", "memory", "tagStore", "rows");
        int holding = 0;
        for (int slot = 0; slot < held.length; slot++) {
            if (held[slot] < 0) {
                cached[slot] = 7;
                t.due("TAGS of no row", b.core.check(), 3);
                cached[slot] = 0;
            } else if (!written[slot]) {
                rows[held[slot]] ^= 1 << 31 | 1;
                t.due("a row that no one wrote", b.core.check(), 2);
                written[slot] = true;
                t.due("had it been written", b.core.check(), 0);
                rows[held[slot]] ^= 1 << 31 | 1;
                written[slot] = false;
                holding++;
            }
        }
        return holding;
    }
}
