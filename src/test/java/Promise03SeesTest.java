public final class Promise03SeesTest {
    public static void main(String[] args) {
        howMany();
        fromNoneToSeven();
        onlyThatNext();
        aMetricBelow16();
        notSilent();
        noSuchRouter();
        bothAreTheSame();
        theLinkIsUp();
        Checks.end();
    }

    private static final String SAYS = "A router sees that its link to another one is down: its routes "
            + "with that NEXT and a metric below 16 that are not SILENT are GONE: how many.";

    private static void howMany() {
        Checks.says(SAYS);
        Net x = Nets.settledLine(5);
        x.link(1, 2, false);
        Checks.same("1 sees 2", x.sees(1, 2), 3);
        for (int d = 2; d <= 4; d++) {
            Checks.same("1 to " + d, Look.route(x, 1, d), "16 2 0 1 20");
        }
        Checks.same("1 to 0 stays", x.route(1, 0, 0), 1);
        Checks.same("0 to 4 stays", x.route(0, 4, 0), 4);
        Checks.same("2 to 0 stays", x.route(2, 0, 0), 2);
        Checks.same("nothing is sent yet", x.count(0), 0);
        Checks.same("2 sees 1", x.sees(2, 1), 2);
        Checks.same("2 to 0", Look.route(x, 2, 0), "16 1 0 1 20");
        Checks.same("2 to 1", Look.route(x, 2, 1), "16 1 0 1 20");
        Checks.same("2 to 3 stays", x.route(2, 3, 0), 1);
    }

    private static void fromNoneToSeven() {
        Checks.says("are GONE: how many.");
        Checks.same("no route at all", new Net().sees(3, 4), 0);
        for (int n = 2; n <= Nets.ROUTERS; n++) {
            Net x = Nets.settledLine(n);
            x.link(0, 1, false);
            Checks.same("0 sees 1, in a line of " + n, x.sees(0, 1), n - 1);
            Net y = Nets.settledLine(n);
            y.link(n - 1, n - 2, false);
            Checks.same("the last sees the one before it", y.sees(n - 1, n - 2), n - 1);
        }
    }

    private static void onlyThatNext() {
        Checks.says("its routes with that NEXT");
        Net x = Nets.settledLine(3);
        String before = Look.state(x);
        Checks.same("a link that never was", x.sees(0, 2), 0);
        Checks.same("all stays", Look.state(x), before);
        Net y = Nets.star(4);
        Nets.hear(y, 3, 4, 0, 2);
        Nets.hear(y, 5, 4, 1, 2);
        Nets.hear(y, 3, 4, 7, 2);
        y.link(4, 3, false);
        Checks.same("two over 3", y.sees(4, 3), 2);
        Checks.same("0 was over 3", Look.route(y, 4, 0), "16 3 0 1 20");
        Checks.same("1 is over 5", Look.route(y, 4, 1), "2 5 0 1 0");
        Checks.same("7 was over 3", Look.route(y, 4, 7), "16 3 0 1 20");
    }

    /** 0 has a route to 7 over 1, of that metric, which is not silent. */
    private static Net withMetric(int metric) {
        Net x = Nets.line(2);
        Nets.hear(x, 1, 0, 7, Math.min(metric, 15));
        if (metric == 16) {
            Nets.hear(x, 1, 0, 7, 16);
            x.tick(20, false);
        } else {
            x.tick(5, false);
        }
        x.link(0, 1, false);
        return x;
    }

    private static void aMetricBelow16() {
        Checks.says("its routes with that NEXT and a metric below 16");
        for (int metric = 1; metric <= 15; metric++) {
            Net x = withMetric(metric);
            Checks.same("before", Look.route(x, 0, 7), metric + " 1 5 0 0");
            Checks.same("metric " + metric, x.sees(0, 1), 1);
            Checks.same("gone", Look.route(x, 0, 7), "16 1 0 1 20");
        }
        Net x = withMetric(16);
        Checks.same("16, not silent", Look.route(x, 0, 7), "16 1 20 0 0");
        Checks.same("metric 16", x.sees(0, 1), 0);
        Checks.same("it stays", Look.route(x, 0, 7), "16 1 20 0 0");
    }

    private static void notSilent() {
        Checks.says("that are not SILENT");
        Net x = Nets.settledLine(4);
        x.link(0, 1, false);
        Checks.same("first", x.sees(0, 1), 3);
        Checks.same("at once again", x.sees(0, 1), 0);
        for (int i = 1; i <= 21; i++) {
            x.tick(1, false);
            Checks.same("behind " + i, x.sees(0, 1), 0);
            Checks.same("as it was", Look.route(x, 0, 3), "16 1 " + i + " 0 " + Math.max(20 - i, 0));
        }
        x.link(0, 1, true);
        Nets.hear(x, 1, 0, 3, 9);
        x.link(0, 1, false);
        Checks.same("heard of again, seen again", x.sees(0, 1), 1);
    }

    private static void noSuchRouter() {
        Checks.says("IndexOutOfBoundsException: there is no such router");
        Net x = Nets.busy();
        for (int w : Nets.NO_ROUTER) {
            for (int r = 0; r < Nets.ROUTERS; r++) {
                int there = r;
                Checks.noSuch("sees(" + w + ", " + r + ")", x, () -> x.sees(w, there));
                Checks.noSuch("sees(" + r + ", " + w + ")", x, () -> x.sees(there, w));
            }
            Checks.noSuch("both the same, and none", x, () -> x.sees(w, w));
        }
        Checks.same("0 and 7 are there", x.sees(0, 7), 0);
        Checks.same("7 and 0 are there", x.sees(7, 0), 0);
    }

    private static void bothAreTheSame() {
        Checks.says("IllegalArgumentException: both are the same");
        Net x = Nets.busy();
        for (int r = 0; r < Nets.ROUTERS; r++) {
            int same = r;
            Checks.notAsSaid("sees of " + r, x, () -> x.sees(same, same));
        }
    }

    private static void theLinkIsUp() {
        Checks.says("IllegalStateException: it is UP.");
        Net x = Nets.settledLine(3);
        Checks.notNow("0 sees 1", x, () -> x.sees(0, 1));
        Checks.notNow("1 sees 0", x, () -> x.sees(1, 0));
        x.link(0, 1, false);
        Checks.same("down: it may", x.sees(1, 0), 1);
        x.link(0, 1, true);
        Checks.notNow("up again", x, () -> x.sees(0, 1));
    }
}
