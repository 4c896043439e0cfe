/** Promise 13. */
public final class CheckTest {
    public static void main(String[] args) {
        Tests t = new Tests("promise 13");
        everywhere(t);
        counted(t);
        t.end();
    }

    /** A capability is stored in every line of memory, loaded again, and half of them are overwritten. */
    private static void everywhere(Tests t) {
        int[] code = {Code.store(3, 1, 1, 0), Code.load(3, 5, 1, 0), Code.cap(20, 6, 5, 1), Code.op(0, 6, 7, 7, 6),
            Code.inspect(4, 6, 5), Code.op(0, 0, 8, 8, 6), Code.incOffset(1, 1, 16), Code.branch(1, 1, 9, -28)};
        Bench b = new Bench(t, code).root(1, 1024, 1024 * 8, 4095).number(9, 9216);
        for (int i = 0; i < 64 * 8; i++) {
            b.run(8);
            t.due("check() in the loop", b.core.check(), 0);
        }
        b.dueNoTrap("512 stored", 32).dueNumber("what was loaded is what was stored", 7, 0).dueNumber("TAGS seen", 8, 512);
        t.due("tags", b.core.count(6), 512);
        for (int i = 256; i < 2304; i++) {
            t.isTrue("tag of " + i, b.core.tag(i) == (i % 4 < 2));
            t.due("word " + i, b.core.memory(i), i % 4 == 0 ? 4 * i : i % 4 == 1 ? b.core.told(1, 2) : 0);
        }
        for (int i = 256; i < 2304; i += 8) {
            b.core.word(i, 0);
            t.due("check() of a word", b.core.check(), 0);
        }
        t.due("tags left", b.core.count(6), 256);
        t.due("grown()", b.core.grown(), 0);
    }

    private static Bench filled(Tests t) {
        Bench b = new Bench(t, Code.store(3, 1, 1, 0), Code.load(3, 5, 1, 512)).root(1, 8192, 1024, 4095).run(2);
        t.due("nothing wrong", b.core.check(), 0);
        return b;
    }

    /** That it would be seen: what is wrong is put there by hand. */
    private static void counted(Tests t) {
        Bench b = filled(t);
        int[] lines = (int[]) Inside.of(b.core, "state", "memory", "directory", "lines");
        boolean[] written = (boolean[]) Inside.of(b.core, "state", "memory", "written");
        int[] cached = (int[]) Inside.of(b.core, "state", "memory", "cached");
        int[] tags = (int[]) Inside.of(b.core, "state", "memory", "cachedTags");
        int clean = -1;
        int empty = -1;
        for (int slot = 0; slot < lines.length; slot++) {
            clean = lines[slot] >= 0 && !written[slot] ? slot : clean;
            empty = lines[slot] < 0 ? slot : empty;
        }
        cached[8 * clean + 3] ^= 5;
        t.due("a word that no one wrote", b.core.check(), 1);
        tags[clean] ^= 2;
        t.due("a TAG that no one wrote", b.core.check(), 2);
        written[clean] = true;
        t.due("had they been written", b.core.check(), 0);
        tags[empty] = 9;
        t.due("TAGS of no line", b.core.check(), 2);
        written[empty] = true;
        lines[empty] = lines[clean];
        t.due("a line twice", b.core.check(), 1);
        int[] rows = (int[]) Inside.of(filled(t).core, "state", "memory", "tagStore", "rows");
        t.due("rows of tags", rows.length, 64);
        tagStore(t);
    }

    private static void tagStore(Tests t) {
        Bench b = filled(t);
        int[] held = (int[]) Inside.of(b.core, "state", "memory", "tagStore", "held");
        int[] cached = (int[]) Inside.of(b.core, "state", "memory", "tagStore", "cached");
        boolean[] written = (boolean[]) Inside.of(b.core, "state", "memory", "tagStore", "written");
        int[] rows = (int[]) Inside.of(b.core, "state", "memory", "tagStore", "rows");
        int slot = 0;
        for (int k = 0; k < held.length; k++) {
            slot = held[k] >= 0 && !written[k] ? k : slot;
        }
        rows[held[slot]] ^= 1 << 31 | 1;
        t.due("a row that no one wrote", b.core.check(), 2);
        written[slot] = true;
        t.due("had it been written", b.core.check(), 0);
        for (int k = 0; k < held.length; k++) {
            if (held[k] < 0) {
                cached[k] = 7;
                t.due("TAGS of no row", b.core.check(), 3);
                return;
            }
        }
        t.isTrue("a slot without a row", false);
    }
}
