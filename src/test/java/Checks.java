/** Counts checks, prints each that fails, and ends the program with exit code 1 if there was one. */
final class Checks {
    /** A call that may throw. */
    interface Call {
        void run();
    }

    private final String name;
    private String where = "";
    private int made = 0;
    private int failed = 0;

    Checks(String name) {
        this.name = name;
    }

    void is(String what, long due, long got) {
        count(due == got, what, Long.toString(due), Long.toString(got));
    }

    void is(String what, char due, char got) {
        count(due == got, what, Character.toString(due), Character.toString(got));
    }

    void is(String what, boolean due, boolean got) {
        count(due == got, what, Boolean.toString(due), Boolean.toString(got));
    }

    void is(String what, float due, float got) {
        count(Float.floatToIntBits(due) == Float.floatToIntBits(got), what, Float.toString(due), Float.toString(got));
    }

    void is(String what, double due, double got) {
        count(Double.doubleToLongBits(due) == Double.doubleToLongBits(got), what,
                Double.toString(due), Double.toString(got));
    }

    void is(String what, String due, String got) {
        count(due.equals(got), what, due, got);
    }

    /** The call throws exactly this exception. */
    void fails(String what, Class<? extends RuntimeException> due, Call call) {
        String got = "nothing";
        try {
            call.run();
        } catch (RuntimeException thrown) {
            got = thrown.getClass().getName();
        }
        count(due.getName().equals(got), what, due.getName(), got);
    }

    /** The call throws exactly this exception and the pier is then as it was before, also inside. */
    void failsAndKeeps(String what, Fishpier pier, Class<? extends RuntimeException> due, Call call) {
        String before = Snapshot.of(pier);
        String insideBefore = Snapshot.inside(pier);
        fails(what, due, call);
        is(what + " changes nothing inside", insideBefore, Snapshot.inside(pier));
        is(what + " changes no answer", before, Snapshot.of(pier));
    }

    /** The call changes nothing, whatever it answers. */
    void keeps(String what, Fishpier pier, Call call) {
        String before = Snapshot.inside(pier);
        call.run();
        is(what + " changes nothing", before, Snapshot.inside(pier));
    }

    /** Runs a test and writes this before each of its checks that fails; an exception of the test is a failure. */
    void during(String title, Call test) {
        where = title + ": ";
        try {
            test.run();
        } catch (RuntimeException thrown) {
            count(false, "the test itself", "no exception", thrown.toString());
        }
        where = "";
    }

    void end() {
        System.out.println(name + ": " + made + " checks, " + failed + " failed");
        if (failed != 0 || made == 0) {
            System.exit(1);
        }
    }

    private void count(boolean isRight, String what, String due, String got) {
        made++;
        if (!isRight) {
            failed++;
            System.out.println(name + ": " + where + what + ": due is " + due + ", answered " + got);
        }
    }
}
