/** Promise 1. */
public final class NewObjectTest {
    public static void main(String[] args) {
        Tests t = new Tests("promise 1");
        CheriCore core = new CheriCore();
        int[] ofNull = {0, 0, 0, 0, -1, 0, 15};
        for (int r = 0; r < 37; r++) {
            for (int what = 0; what < 7; what++) {
                t.due("told(" + r + ", " + what + ")", core.told(r, what), ofNull[what]);
            }
        }
        CheriCore other = core;
        for (int i = 0; i < 4096; i++) {
            // An object is used for at most 512 calls.
            other = i % 256 == 0 ? new CheriCore() : other;
            t.due("memory(" + i + ")", other.memory(i), 0);
            t.isTrue("no tag at " + i, !other.tag(i));
        }
        for (int what = 0; what < 7; what++) {
            t.due("count(" + what + ")", core.count(what), 0);
        }
        t.due("grown()", core.grown(), 0);
        t.due("check()", core.check(), 0);
        t.due("run of a PCC that is NULL", core.run(7), 1);
        twoObjectsAreTwo(t);
        t.end();
    }

    private static void twoObjectsAreTwo(Tests t) {
        CheriCore one = new CheriCore();
        CheriCore other = new CheriCore();
        one.word(5, 77);
        one.root(3, 8, 8, 1);
        one.put(4, 9, 9);
        t.due("memory of the other", other.memory(5), 0);
        t.due("roots of the other", other.count(5), 0);
        t.due("register of the other", other.told(3, 0), 0);
        t.due("number of the other", other.told(4, 1), 0);
    }
}
