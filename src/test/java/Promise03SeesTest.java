public final class Promise03SeesTest {
    public static void main(String[] args) {
        routesOverTheLinkAreGone();
        onlyThatNextIsMeant();
        routesThatAreGoneAlreadyDoNotCount();
        wrongInputs();
        Checks.end();
    }

    private static void routesOverTheLinkAreGone() {
        HopRouters x = Nets.settledLine(5);
        x.link(1, 2, false);
        Checks.same("1 sees 2", x.sees(1, 2), 3);
        for (int d = 2; d <= 4; d++) {
            Checks.same("1 to " + d, Nets.route(x, 1, d), "16 2 0 1 20");
        }
        Checks.same("1 to 0 stays", x.route(1, 0, 0), 1);
        Checks.same("0 to 4 stays", x.route(0, 4, 0), 4);
        Checks.same("2 to 0 stays", x.route(2, 0, 0), 2);
        Checks.same("nothing is sent yet", x.count(0), 0);
        Checks.same("2 sees 1", x.sees(2, 1), 2);
        Checks.same("2 to 0", Nets.route(x, 2, 0), "16 1 0 1 20");
    }

    private static void onlyThatNextIsMeant() {
        HopRouters x = Nets.settledLine(3);
        Checks.same("a link that never was", x.sees(0, 2), 0);
        Checks.same("0 to 2 goes by 1", x.route(0, 2, 0), 2);
    }

    private static void routesThatAreGoneAlreadyDoNotCount() {
        HopRouters x = Nets.settledLine(4);
        x.link(0, 1, false);
        Checks.same("first", x.sees(0, 1), 3);
        x.tick(3, false);
        Checks.same("second", x.sees(0, 1), 0);
        Checks.same("as it was", Nets.route(x, 0, 3), "16 1 3 0 17");
        x.tick(20, false);
        Checks.same("no more silent", x.sees(0, 1), 0);
        Checks.same("still as it was", Nets.route(x, 0, 3), "16 1 23 0 0");
        HopRouters y = new HopRouters();
        Checks.same("no route at all", y.sees(3, 4), 0);
    }

    private static void wrongInputs() {
        HopRouters x = Nets.settledLine(3);
        int[] wrong = {-1, 8, Integer.MIN_VALUE, Integer.MAX_VALUE};
        for (int w : wrong) {
            Checks.noSuch("sees(" + w + ", 0)", x, () -> x.sees(w, 0));
            Checks.noSuch("sees(0, " + w + ")", x, () -> x.sees(0, w));
            Checks.noSuch("sees, no such one twice", x, () -> x.sees(w, w));
        }
        Checks.notAsSaid("sees itself", x, () -> x.sees(1, 1));
        Checks.notNow("sees a link that is up", x, () -> x.sees(0, 1));
        Checks.notNow("sees it from the other end", x, () -> x.sees(1, 0));
    }
}
