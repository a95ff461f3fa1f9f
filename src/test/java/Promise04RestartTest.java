public final class Promise04RestartTest {
    public static void main(String[] args) {
        asksEachNeighbour();
        forgetsAllRoutes();
        learnsThemAnew();
        aFullAir();
        wrongInputs();
        Checks.end();
    }

    private static void asksEachNeighbour() {
        HopRouters x = new HopRouters();
        Checks.same("without neighbours", x.restart(3), 0);
        x.link(3, 6, true);
        x.link(3, 0, true);
        x.link(3, 5, true);
        x.link(0, 1, true);
        Checks.same("with three", x.restart(3), 3);
        Checks.same("first", Nets.packet(x, 0), Nets.due(3, 0, 1, 0, 0, 16));
        Checks.same("second", Nets.packet(x, 1), Nets.due(3, 5, 1, 0, 0, 16));
        Checks.same("third", Nets.packet(x, 2), Nets.due(3, 6, 1, 0, 0, 16));
        Checks.same("those before stay", x.restart(0), 5);
        Checks.same("sent", x.count(2), 5);
    }

    private static void forgetsAllRoutes() {
        HopRouters x = Nets.settledLine(4);
        Nets.hear(x, 0, 1, 5, 3);
        x.link(1, 2, false);
        x.sees(1, 2);
        x.restart(1);
        for (int d = 0; d < Nets.ROUTERS; d++) {
            Checks.same("1 to " + d, Nets.route(x, 1, d), d == 1 ? "0 -1 -1 -1 -1" : Nets.NO_ROUTE);
        }
        Checks.same("others keep theirs", x.route(0, 3, 0), 3);
        x.lose(0);
        Checks.same("no change is left to tell", x.tick(1, false), 0);
        Nets.hear(x, 0, 1, 3, 4);
        Checks.same("no silence is left", Nets.route(x, 1, 3), "4 0 0 1 0");
    }

    private static void learnsThemAnew() {
        HopRouters x = Nets.settledLine(4);
        x.restart(1);
        x.deliver(0);
        x.deliver(0);
        x.deliver(0);
        x.deliver(0);
        Checks.same("1 to 0", x.route(1, 0, 0), 1);
        Checks.same("1 to 3", x.route(1, 3, 0), 2);
        Checks.same("air", x.count(0), 0);
    }

    private static void aFullAir() {
        HopRouters x = Nets.fullAir();
        Checks.same("full", x.restart(0), 200);
        Checks.same("lost", x.count(1), 1);
        Checks.same("sent", x.count(2), 201);
    }

    private static void wrongInputs() {
        HopRouters x = Nets.settledLine(3);
        int[] wrong = {-1, 8, Integer.MIN_VALUE, Integer.MAX_VALUE};
        for (int w : wrong) {
            Checks.noSuch("restart(" + w + ")", x, () -> x.restart(w));
        }
    }
}
