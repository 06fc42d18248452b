/** Counts what the checks of one test find and ends its run with the exit code that is due. */
final class Checks {
    interface Call {
        void run();
    }

    private int passed;
    private int failed;

    void equal(String what, long want, long got) {
        judge(want == got, what + " answered " + got + ", due is " + want);
    }

    void equal(String what, double want, double got) {
        judge(want == got, what + " answered " + got + ", due is " + want);
    }

    void equal(String what, boolean want, boolean got) {
        judge(want == got, what + " answered " + got + ", due is " + want);
    }

    void equal(String what, String want, String got) {
        judge(want.equals(got), what + " answered " + got + ", due is " + want);
    }

    /** The class must be this very one: a class below it is what the machine itself throws. */
    void refuses(Class<? extends RuntimeException> want, String what, Call call) {
        try {
            call.run();
        } catch (RuntimeException e) {
            judge(e.getClass() == want, what + " throws " + e + ", due is " + want.getName());
            return;
        }
        judge(false, what + " throws nothing, due is " + want.getName());
    }

    void allows(String what, Call call) {
        try {
            call.run();
        } catch (RuntimeException e) {
            judge(false, what + " throws " + e + ", due is no exception");
            return;
        }
        judge(true, what);
    }

    int failures() {
        return failed;
    }

    private void judge(boolean good, String complaint) {
        if (good) {
            passed++;
        } else {
            failed++;
            System.out.println(complaint);
        }
    }

    void close(String name) {
        System.out.println(name + ": " + passed + " checks hold, " + failed + " do not");
        if (failed > 0 || passed == 0) {
            System.exit(1);
        }
    }
}
