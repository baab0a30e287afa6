/** Counts the answers that are not the due ones; any of them ends a test with exit code 1. */
final class Due {
    private static final int MOST_LINES = 40;

    private int wrong;

    void is(String call, long got, long want) {
        is(call, Long.toString(got), Long.toString(want));
    }

    void is(String call, boolean got, boolean want) {
        is(call, Boolean.toString(got), Boolean.toString(want));
    }

    void is(String call, String got, String want) {
        if (got.equals(want)) {
            return;
        }
        wrong++;
        if (wrong <= MOST_LINES) {
            System.out.println(call + " answered " + got + ", due is " + want);
        }
    }

    void outOfBounds(String call, Runnable run) {
        is(call, thrownBy(run), "throws.IndexOutOfBoundsException");
    }

    void illegalState(String call, Runnable run) {
        is(call, thrownBy(run), "throws.IllegalStateException");
    }

    void nothingThrown(String call, Runnable run) {
        is(call, thrownBy(run), "nothing");
    }

    boolean allWell() {
        return wrong == 0;
    }

    void end() {
        if (wrong != 0) {
            System.out.println(wrong + " answers are not as due");
            System.exit(1);
        }
    }

    /** The exact class counts: a kind of the due exception is not the due one. */
    static String thrownBy(Runnable run) {
        try {
            run.run();
            return "nothing";
        } catch (RuntimeException e) {
            return "throws." + e.getClass().getSimpleName();
        }
    }
}
