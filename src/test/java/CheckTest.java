/** Promise 13. */
public final class CheckTest {
    public static void main(String[] args) {
        Tests t = new Tests("promise 13");
        everywhere(t);
        comingAndGoing(t);
        swept(t);
        if (Inside.isOurs(new CheriCore())) {
            seen(t);
        }
        t.end();
    }

    /** That it would be seen: what is wrong is put there by hand, in caches that hold little and in full ones. */
    private static void seen(Tests t) {
        for (int full = 0; full < 2; full++) {
            t.says("lines that stand for two places,");
            twoPlaces(t, full == 0 ? filled(t) : swept(t));
            t.says("TAGS in lines that no line has,");
            tagsOfNoLine(t, full == 0 ? filled(t) : swept(t));
            t.says("such as are not as in MEMORY though they were not written: always 0.");
            int lines = notAsInMemory(t, full == 0 ? filled(t) : swept(t));
            int rows = rowsNotAsInMemory(t, full == 0 ? filled(t) : swept(t));
            t.isTrue("clean lines " + lines, full == 0 ? lines > 0 && lines < 9 : lines == 31);
            t.isTrue("clean rows " + rows, full == 0 ? rows > 0 && rows < 9 : rows == 8);
        }
    }

    /** A capability is stored in each eight bytes of half of memory and loaded again. */
    private static void everywhere(Tests t) {
        int meta = stored(t).core.told(1, 2);
        for (int from = 0; from < 4096; from += 256) {
            tagsOf(t, stored(t), from);
            wordsOf(t, stored(t), from, meta);
        }
    }

    private static Bench stored(Tests t) {
        int[] code = {Code.store(3, 1, 1, 0), Code.load(3, 5, 1, 0), Code.cap(20, 6, 5, 1), Code.op(0, 6, 7, 7, 6),
            Code.inspect(4, 6, 5), Code.op(0, 0, 8, 8, 6), Code.incOffset(1, 1, 8), Code.branch(1, 1, 9, -28)};
        Bench b = new Bench(t, code).root(1, 1024, 1024 * 8, 4095).number(9, 9216);
        for (int i = 0; i < 32; i++) {
            b.run(8 * 32);
            t.due("check() in the loop", b.core.check(), 0);
        }
        b.dueNoTrap("1024 stored", 32).dueNumber("loaded is what was stored", 7, 0).dueNumber("TAGS seen", 8, 1024);
        t.due("tags", b.core.count(6), 1024);
        t.due("grown()", b.core.grown(), 0);
        return b;
    }

    private static void tagsOf(Tests t, Bench b, int from) {
        for (int i = from; i < from + 256; i++) {
            t.isTrue("tag of " + i, b.core.tag(i) == (i >= 256 && i < 2304));
        }
    }

    private static void wordsOf(Tests t, Bench b, int from, int meta) {
        for (int i = from; i < from + 256; i++) {
            if (i >= 256 && i < 2304) {
                t.due("word " + i, b.core.memory(i), i % 2 == 0 ? 4 * i : meta);
            }
        }
    }

    /** A TAG in each third eight bytes; some are taken away; lines leave the cache and come again. */
    private static void comingAndGoing(Tests t) {
        for (int from = 256; from < 2304; from += 256) {
            for (int again = 0; again < 2; again++) {
                Bench b = sparse(t);
                sweep(b, 0, 16384);
                for (int i = from; i < from + 256; i += 10) {
                    b.core.word(i, 0);
                }
                sweep(b, 9216, 16384);
                if (again == 1) {
                    sweep(b, 4 * from, 4 * from + 1024);
                }
                t.due("check()", b.core.check(), 0);
                for (int i = from; i < from + 256; i++) {
                    boolean due = (i - 256) / 2 % 3 == 0 && (i - from) / 2 % 5 != 0;
                    t.isTrue("tag of " + i + ", " + again, b.core.tag(i) == due);
                }
            }
        }
    }

    private static Bench sparse(Tests t) {
        int[] code = {Code.store(3, 1, 1, 0), Code.incOffset(1, 1, 24), Code.branch(1, 1, 9, -8), Code.NOP,
            Code.cap(16, 3, 3, 10), Code.load(2, 5, 3, 0), Code.incOffset(3, 3, 32), Code.branch(1, 3, 11, -8),
            Code.jal(0, -16)};
        Bench b = new Bench(t, code).root(1, 1024, 1024 * 8, 4095).root(3, 0, 16384, 4095);
        return b.number(9, 1024 + 342 * 24).run(3 * 342 + 1).dueNoTrap("342 stored", 16);
    }

    /** Loads a word of each line, and stands where it stood. */
    private static void sweep(Bench b, int from, int to) {
        b.number(10, from).number(11, to).run(1 + 3 * ((to - from) / 32) + 1).dueNoTrap("swept", 16);
    }

    private static Bench filled(Tests t) {
        Bench b = new Bench(t, Code.store(3, 1, 1, 32), Code.load(3, 5, 1, 512)).root(1, 8192, 1024, 4095).run(2);
        t.due("nothing wrong", b.core.check(), 0);
        return b;
    }

    /** Reads a word of each line, so that all slots are held by lines that no one wrote, but for that of the loop. */
    private static Bench swept(Tests t) {
        int[] code = new int[16];
        code[0] = Code.jal(0, 32);
        code[8] = Code.load(2, 5, 1, 0);
        code[9] = Code.incOffset(1, 1, 32);
        code[10] = Code.branch(1, 1, 9, -8);
        Bench b = new Bench(t, code).root(1, 0, 16384, 4095).number(9, 16384).run(1 + 3 * 512);
        t.due("nothing wrong", b.core.check(), 0);
        return b;
    }

    private static int[] lines(Bench b) {
        return (int[]) Inside.of(b.core, "state", "memory", "directory", "lines");
    }

    private static void twoPlaces(Tests t, Bench b) {
        int[] lines = lines(b);
        int[] tags = (int[]) Inside.of(b.core, "state", "memory", "cachedTags");
        boolean[] written = (boolean[]) Inside.of(b.core, "state", "memory", "written");
        for (int slot = 0; slot < lines.length; slot++) {
            int other = slot % 2 == 0 ? slot + 1 : (slot + 6) % lines.length;
            int line = lines[slot];
            int lineThere = lines[other];
            boolean was = written[slot];
            boolean wasThere = written[other];
            written[slot] = true;
            written[other] = true;
            lines[slot] = 333;
            t.due("a line once", b.core.check(), 0);
            lines[other] = 333;
            t.due("a line twice", b.core.check(), 1);
            lines[slot] = -1;
            lines[other] = -1;
            t.due("no line, twice", b.core.check(), Integer.bitCount(tags[slot]) + Integer.bitCount(tags[other]));
            lines[slot] = line;
            lines[other] = lineThere;
            written[slot] = was;
            written[other] = wasThere;
            t.due("as it was", b.core.check(), 0);
        }
    }

    private static void tagsOfNoLine(Tests t, Bench b) {
        int[] lines = lines(b);
        int[] tags = (int[]) Inside.of(b.core, "state", "memory", "cachedTags");
        for (int slot = 0; slot < lines.length; slot++) {
            int line = lines[slot];
            int had = tags[slot];
            lines[slot] = -1;
            tags[slot] = 0;
            t.due("no TAGS", b.core.check(), 0);
            tags[slot] = 9;
            t.due("two TAGS", b.core.check(), 2);
            lines[slot] = line;
            tags[slot] = had;
        }
        int[] held = (int[]) Inside.of(b.core, "state", "memory", "tagStore", "held");
        int[] cached = (int[]) Inside.of(b.core, "state", "memory", "tagStore", "cached");
        for (int slot = 0; slot < held.length; slot++) {
            if (held[slot] < 0) {
                cached[slot] = 7;
                t.due("three TAGS of no row", b.core.check(), 3);
                cached[slot] = 0;
            }
        }
    }

    /** Answers how many lines are held that no one wrote. */
    private static int notAsInMemory(Tests t, Bench b) {
        int[] lines = lines(b);
        boolean[] written = (boolean[]) Inside.of(b.core, "state", "memory", "written");
        int[] cached = (int[]) Inside.of(b.core, "state", "memory", "cached");
        int[] tags = (int[]) Inside.of(b.core, "state", "memory", "cachedTags");
        int clean = 0;
        for (int slot = 0; slot < lines.length; slot++) {
            boolean isClean = lines[slot] >= 0 && !written[slot];
            clean += isClean ? 1 : 0;
            if (lines[slot] >= 0) {
                tags[slot] ^= 9;
                t.due("TAGS", b.core.check(), isClean ? 2 : 0);
                tags[slot] ^= 9;
            }
            for (int k = 0; k < 8; k++) {
                cached[8 * slot + k] ^= 5;
                t.due("a WORD", b.core.check(), isClean ? 1 : 0);
                cached[8 * slot + k] ^= 5;
            }
        }
        return clean;
    }

    /** Answers how many rows of TAGS are held that no one wrote. */
    private static int rowsNotAsInMemory(Tests t, Bench b) {
        int[] held = (int[]) Inside.of(b.core, "state", "memory", "tagStore", "held");
        boolean[] written = (boolean[]) Inside.of(b.core, "state", "memory", "tagStore", "written");
        int[] rows = (int[]) Inside.of(b.core, "state", "memory", "tagStore", "rows");
        int clean = 0;
        for (int slot = 0; slot < held.length; slot++) {
            if (held[slot] >= 0 && !written[slot]) {
                rows[held[slot]] ^= 1 << 31 | 1;
                t.due("a row", b.core.check(), 2);
                written[slot] = true;
                t.due("had it been written", b.core.check(), 0);
                rows[held[slot]] ^= 1 << 31 | 1;
                written[slot] = false;
                clean++;
            }
        }
        return clean;
    }
}
