public final class Promise04RestartTest {
    public static void main(String[] args) {
        forgetsAllRoutes();
        asksEachNeighbourByNumber();
        fromNoNeighbourToSeven();
        howManyInTheAir();
        learnsAnew();
        noSuchRouter();
        Checks.end();
    }

    private static void forgetsAllRoutes() {
        Checks.says("A router forgets all routes");
        Net x = Nets.settledLine(4);
        Nets.hear(x, 0, 1, 5, 3);
        x.link(1, 2, false);
        x.sees(1, 2);
        Checks.same("one is silent", Look.route(x, 1, 3), "16 2 0 1 20");
        x.restart(1);
        for (int d = 0; d < Nets.ROUTERS; d++) {
            Checks.same("1 to " + d, Look.route(x, 1, d), d == 1 ? Look.TO_ITSELF : Look.NO_ROUTE);
        }
        Checks.same("others keep theirs", x.route(0, 3, 0), 3);
        x.lose(0);
        Checks.same("no change is left to tell", x.tick(1, false), 0);
        Nets.hear(x, 0, 1, 3, 4);
        Checks.same("no silence is left", Look.route(x, 1, 3), "4 0 0 1 0");
        Net ends = Nets.settledLine(8);
        ends.restart(7);
        ends.restart(0);
        for (int d = 1; d < 7; d++) {
            Checks.same("0 to " + d, Look.route(ends, 0, d), Look.NO_ROUTE);
            Checks.same("7 to " + d, Look.route(ends, 7, d), Look.NO_ROUTE);
        }
    }

    private static void asksEachNeighbourByNumber() {
        Checks.says("sends each neighbour, by number, a request with one entry of family 0, D 0 and "
                + "metric 16");
        Net x = new Net();
        x.link(3, 6, true);
        x.link(3, 0, true);
        x.link(3, 5, true);
        x.link(0, 1, true);
        x.link(3, 4, true);
        x.link(3, 4, false);
        Checks.same("with three", x.restart(3), 3);
        Checks.same("packets", Look.packets(x, 0), Nets.requestForAll(3, 0) + "\n"
                + Nets.requestForAll(3, 5) + "\n" + Nets.requestForAll(3, 6) + "\n");
        Checks.same("those before stay", x.restart(0), 5);
        Checks.same("sent", x.count(2), 5);
    }

    private static void fromNoNeighbourToSeven() {
        Checks.says("sends each neighbour, by number, a request");
        for (int router = 0; router < Nets.ROUTERS; router++) {
            Checks.same("without a neighbour", new Net().restart(router), 0);
            Net x = Nets.star(router);
            Checks.same("with seven", x.restart(router), 7);
            int k = 0;
            for (int other = 0; other < Nets.ROUTERS; other++) {
                if (other != router) {
                    Checks.same("request", Look.packet(x, k), Nets.requestForAll(router, other));
                    k++;
                }
            }
        }
    }

    private static void howManyInTheAir() {
        Checks.says("200 at most: one that would be more is LOST");
        for (int before = 197; before <= 200; before++) {
            Net x = Nets.withPackets(before);
            x.link(1, 7, true);
            int room = 200 - before;
            Checks.same("three more to " + before, x.restart(1), 200);
            Checks.same("counts", Look.counts(x), "200 " + (3 - room) + " " + (before + 3) + " 0 3 0");
            int[] neighbours = {0, 2, 7};
            for (int i = 0; i < room; i++) {
                Checks.same("those before", Look.packet(x, before + i),
                        Nets.requestForAll(1, neighbours[i]));
            }
        }
        Net roomy = Nets.withPackets(196);
        Checks.same("two more to 196", roomy.restart(1), 198);
        Net full = Nets.fullAir();
        full.lose(0);
        Nets.hear(full, 0, 1, 7, 3);
        full.ask(0, 1, 1);
        Checks.same("nobody hears of it", full.restart(1), 200);
        Checks.same("but it forgets", Look.route(full, 1, 7), Look.NO_ROUTE);
    }

    private static void learnsAnew() {
        Checks.says("A router forgets all routes, and sends each neighbour, by number, a request");
        Net x = Nets.settledLine(4);
        x.restart(1);
        for (int i = 0; i < 4; i++) {
            x.deliver(0);
        }
        Checks.same("1 to 0", x.route(1, 0, 0), 1);
        Checks.same("1 to 3", x.route(1, 3, 0), 2);
        Checks.same("air", x.count(0), 0);
    }

    private static void noSuchRouter() {
        Checks.says("IndexOutOfBoundsException: there is no such router");
        Net x = Nets.busy();
        for (int w : Nets.NO_ROUTER) {
            Checks.noSuch("restart(" + w + ")", x, () -> x.restart(w));
        }
        int before = x.count(0);
        Checks.same("7 is there", x.restart(7), before);
        Checks.same("0 is there, and has a neighbour", x.restart(0), before + 1);
    }
}
