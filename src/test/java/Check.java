/** Counts the answers that are due and those that are not. */
final class Check {
    interface Call {
        long answer();
    }

    private final String title;
    private int passed;
    private int failed;

    Check(String title) {
        this.title = title;
    }

    void due(String call, long due, long got) {
        tell(due == got, call + " answered " + got + ", due is " + due);
    }

    void holds(String what, boolean holds) {
        tell(holds, what);
    }

    /** The very class is asked for: what the Java machine throws is often one below it. */
    void refused(String call, Class<? extends RuntimeException> due, Call made) {
        try {
            long answer = made.answer();
            tell(false, call + " answered " + answer + ", due is " + due.getSimpleName());
        } catch (RuntimeException e) {
            tell(e.getClass() == due, call + " threw " + e.getClass().getName() + ", due is " + due.getSimpleName());
        }
    }

    void noSuchIndex(String call, Call made) {
        refused(call, IndexOutOfBoundsException.class, made);
    }

    void outOfRange(String call, Call made) {
        refused(call, IllegalArgumentException.class, made);
    }

    void wrongState(String call, Call made) {
        refused(call, IllegalStateException.class, made);
    }

    void end() {
        System.out.println(passed + " passed, " + failed + " failed");
        if (failed != 0) {
            System.exit(1);
        }
    }

    private void tell(boolean fine, String fault) {
        if (fine) {
            passed++;
        } else {
            failed++;
            System.out.println(title + ": " + fault);
        }
    }
}
