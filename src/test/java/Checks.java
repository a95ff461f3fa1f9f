/** Counts the checks of one test program, and tells those that fail. */
final class Checks {
    private static final long LONGEST_RUN_MS = 240_000;

    private static int sentences = 0;
    private static int passed = 0;
    private static int failed = 0;
    private static String sentence = "";

    static {
        Thread watch = new Thread(Checks::stopWhatDoesNotEnd);
        watch.setDaemon(true);
        watch.start();
    }

    private Checks() {
    }

    /** A call that never ends must fail its test, not hang it. */
    private static void stopWhatDoesNotEnd() {
        try {
            Thread.sleep(LONGEST_RUN_MS);
        } catch (InterruptedException e) {
            return;
        }
        System.out.println("wrong: a call does not end");
        Runtime.getRuntime().halt(1);
    }

    interface Call {
        void run();
    }

    /** What the document says, and the checks behind this hold it to. */
    static void says(String words) {
        sentence = words;
        sentences++;
    }

    static void same(String what, long got, long due) {
        note(got == due, what + " answered " + got + ", due is " + due);
    }

    static void same(String what, boolean got, boolean due) {
        note(got == due, what + " answered " + got + ", due is " + due);
    }

    static void same(String what, String got, String due) {
        note(got.equals(due), what + " is\n" + got + "\ndue is\n" + due);
    }

    /** The call must throw just this class, and leave the net as it was. */
    static void refused(String what, Net x, Class<?> due, Call call) {
        String before = Look.state(x);
        String got = "nothing";
        try {
            call.run();
        } catch (RuntimeException e) {
            got = e.getClass().getName();
        }
        note(got.equals(due.getName()), what + " threw " + got + ", due is " + due.getName());
        same("the state behind " + what, Look.state(x), before);
    }

    static void noSuch(String what, Net x, Call call) {
        refused(what, x, IndexOutOfBoundsException.class, call);
    }

    static void notAsSaid(String what, Net x, Call call) {
        refused(what, x, IllegalArgumentException.class, call);
    }

    static void notNow(String what, Net x, Call call) {
        refused(what, x, IllegalStateException.class, call);
    }

    static boolean allGood() {
        return failed == 0;
    }

    static void note(boolean good, String trouble) {
        if (good) {
            passed++;
        } else {
            failed++;
            System.out.println("wrong: " + trouble);
            if (!sentence.isEmpty()) {
                System.out.println("  where the document says: " + sentence);
            }
        }
    }

    static void end() {
        String held = sentences == 0 ? "" : " of " + sentences + " sentences";
        System.out.println("checks" + held + ": " + passed + " passed, " + failed + " failed");
        if (failed != 0 || passed == 0) {
            System.exit(1);
        }
    }
}
