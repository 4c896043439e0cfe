/** Counts what is not as due, prints it, and ends the program with exit code 1 if there was any. */
final class Tests {
    /** A call of the face whose answer, or whose exception, is looked at. */
    interface Call {
        long answer();
    }

    private final String name;
    private int looked;
    private int wrong;

    Tests(String name) {
        this.name = name;
    }

    void isTrue(String what, boolean holds) {
        looked++;
        if (!holds) {
            wrong++;
            System.out.println(name + ": not so: " + what);
        }
    }

    void due(String what, long got, long want) {
        looked++;
        if (got != want) {
            wrong++;
            System.out.println(name + ": " + what + " answered " + got + ", due is " + want);
        }
    }

    void refused(String what, Class<? extends RuntimeException> kind, Call call) {
        looked++;
        try {
            long got = call.answer();
            wrong++;
            System.out.println(name + ": " + what + " answered " + got + ", due is " + kind.getSimpleName());
        } catch (RuntimeException e) {
            if (e.getClass() != kind) {
                wrong++;
                System.out.println(name + ": " + what + " threw " + e + ", due is " + kind.getSimpleName());
            }
        }
    }

    int wrongs() {
        return wrong;
    }

    void end() {
        System.out.println(name + ": " + looked + " looked at, " + wrong + " not as due");
        if (wrong != 0) {
            System.exit(1);
        }
    }
}
