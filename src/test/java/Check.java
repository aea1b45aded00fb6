/** Counts what holds and what does not, and tells the latter. */
final class Check {
    static int passed;
    static int failed;

    private Check() {
    }

    static void same(String what, long got, long want) {
        tell(got == want, what, Long.toString(got), Long.toString(want));
    }

    static void same(String what, double got, double want) {
        tell(got == want, what, Double.toString(got), Double.toString(want));
    }

    static void yes(String what, boolean got) {
        tell(got, what, "false", "true");
    }

    static void no(String what, boolean got) {
        tell(!got, what, "true", "false");
    }

    /** The exception must be of this very class, and thrown by a throw statement of the program. */
    static void fails(String what, Class<? extends RuntimeException> due, Runnable call) {
        String got = "nothing";
        boolean isDue = false;
        try {
            call.run();
        } catch (RuntimeException e) {
            got = e.getClass().getSimpleName();
            isDue = e.getClass() == due && e.getStackTrace()[0].getClassName().equals("Underpaint");
        }
        tell(isDue, what, got, due.getSimpleName());
    }

    static void tell(boolean holds, String what, String got, String want) {
        if (holds) {
            passed++;
        } else {
            failed++;
            System.out.println("FAILED " + what + ": got " + got + ", due is " + want);
        }
    }
}
