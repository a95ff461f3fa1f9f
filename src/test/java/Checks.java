/** Counts the checks of one test program, and tells those that fail. */
final class Checks {
    private static int passed = 0;
    private static int failed = 0;

    private Checks() {
    }

    interface Call {
        void run();
    }

    static void same(String what, long got, long due) {
        note(got == due, what + " answered " + got + ", due is " + due);
    }

    static void same(String what, boolean got, boolean due) {
        note(got == due, what + " answered " + got + ", due is " + due);
    }

    static void same(String what, String got, String due) {
        note(got.equals(due), what + " is\n" + got + "\ndue is\n" + due);
    }

    /** The call must throw just this class, and leave the object as it was. */
    static void refused(String what, HopRouters x, Class<?> due, Call call) {
        String before = Nets.state(x);
        String got = "nothing";
        try {
            call.run();
        } catch (RuntimeException e) {
            got = e.getClass().getName();
        }
        note(got.equals(due.getName()), what + " threw " + got + ", due is " + due.getName());
        same("the state behind " + what, Nets.state(x), before);
    }

    static void noSuch(String what, HopRouters x, Call call) {
        refused(what, x, IndexOutOfBoundsException.class, call);
    }

    static void notAsSaid(String what, HopRouters x, Call call) {
        refused(what, x, IllegalArgumentException.class, call);
    }

    static void notNow(String what, HopRouters x, Call call) {
        refused(what, x, IllegalStateException.class, call);
    }

    static void note(boolean good, String trouble) {
        if (good) {
            passed++;
        } else {
            failed++;
            System.out.println("wrong: " + trouble);
        }
    }

    static void end() {
        System.out.println("checks: " + passed + " passed, " + failed + " failed");
        if (failed != 0 || passed == 0) {
            System.exit(1);
        }
    }
}
