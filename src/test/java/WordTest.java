/** Promises 2, 7 and 8. */
public final class WordTest {
    private static final Class<IndexOutOfBoundsException> NO_WORD = IndexOutOfBoundsException.class;

    public static void main(String[] args) {
        Tests t = new Tests("promises 2, 7, 8");
        ordinary(t);
        for (int first = 0; first < 32; first++) {
            manyWords(t, first);
        }
        wrongPlaces(t);
        tags(t);
        t.end();
    }

    private static void ordinary(Tests t) {
        CheriCore core = new CheriCore();
        t.due("first write", core.word(0, 5), 0);
        t.due("second write", core.word(0, -6), 5);
        t.due("what is there", core.memory(0), -6);
        t.due("last word", core.word(4095, Integer.MIN_VALUE), 0);
        t.due("last word is there", core.memory(4095), Integer.MIN_VALUE);
        t.due("its neighbour", core.memory(4094), 0);
    }

    /** Each 32nd word from one on: more lines than a cache holds, so that they are written back and read again. */
    private static void manyWords(Tests t, int first) {
        CheriCore core = new CheriCore();
        for (int i = first; i < 4096; i += 32) {
            t.due("word " + i, core.word(i, i * 7919 + 1), 0);
        }
        for (int i = first + 4064; i >= 0; i -= 32) {
            t.due("memory " + i, core.memory(i), i * 7919 + 1);
        }
        for (int i = first; i < 4096; i += 96) {
            t.due("word again " + i, core.word(i, ~i), i * 7919 + 1);
        }
        for (int i = first; i < 4096; i += 32) {
            t.due("memory again " + i, core.memory(i), (i - first) % 96 == 0 ? ~i : i * 7919 + 1);
        }
        t.due("check()", core.check(), 0);
    }

    private static void wrongPlaces(Tests t) {
        CheriCore core = new CheriCore();
        for (int i : new int[] {-1, 4096, Integer.MIN_VALUE, Integer.MAX_VALUE}) {
            t.refused("word(" + i + ", 1)", NO_WORD, () -> core.word(i, 1));
            t.refused("memory(" + i + ")", NO_WORD, () -> core.memory(i));
            t.refused("tag(" + i + ")", NO_WORD, () -> core.tag(i) ? 1 : 0);
        }
        for (int i = 0; i < 4096; i += 15) {
            t.due("memory " + i + " after what was refused", core.memory(i), 0);
        }
    }

    private static void tags(Tests t) {
        for (int half = 0; half < 2; half++) {
            Bench b = new Bench(t, Code.store(3, 1, 1, 0), Code.store(3, 1, 1, 8)).root(1, 8192, 64, Bench.ALL).run(2);
            t.isTrue("tag by the lower half", b.core.tag(2048));
            t.isTrue("tag by the upper half", b.core.tag(2049));
            t.isTrue("tag of the next", b.core.tag(2050));
            t.isTrue("none behind", !b.core.tag(2052));
            t.isTrue("none before", !b.core.tag(2047));
            t.due("lower four bytes", b.core.memory(2048), 8192);
            t.due("upper four bytes", b.core.memory(2049), b.core.told(1, 2));
            t.due("tags", b.core.count(6), 2);
            b.core.word(2048 + half, b.core.memory(2048 + half));
            t.isTrue("tag gone, lower half", !b.core.tag(2048));
            t.isTrue("tag gone, upper half", !b.core.tag(2049));
            t.isTrue("tag of the next stays", b.core.tag(2051));
            t.due("tags left", b.core.count(6), 1);
        }
    }
}
