public final class Promise02LinkTest {
    public static void main(String[] args) {
        whetherItWasAnotherWay();
        bothWaysRound();
        everyPair();
        routersAreNotTold();
        noSuchRouter();
        bothAreTheSame();
        Checks.end();
    }

    private static void whetherItWasAnotherWay() {
        Checks.says("A link goes up or down (both routers are not told): whether it was another way.");
        Net x = new Net();
        Checks.same("down at first", x.link(0, 7, false), false);
        Checks.same("up", x.link(0, 7, true), true);
        Checks.same("up again", x.link(0, 7, true), false);
        Checks.same("one is up", x.count(4), 1);
        Checks.same("down", x.link(0, 7, false), true);
        Checks.same("down again", x.link(0, 7, false), false);
        Checks.same("none is up", x.count(4), 0);
    }

    private static void bothWaysRound() {
        Checks.says("a LINK between two different ones is UP or down");
        Net x = new Net();
        x.link(2, 5, true);
        Checks.same("the other way round", x.link(5, 2, true), false);
        Checks.same("one link", x.count(4), 1);
        Checks.same("ask this way", x.ask(2, 5, 1), 1);
        Checks.same("ask that way", x.ask(5, 2, 1), 2);
        Checks.same("down from the other end", x.link(5, 2, false), true);
        Checks.same("down from both", x.link(2, 5, false), false);
    }

    private static void everyPair() {
        Checks.says("ROUTERS 0 .. 7; a LINK between two different ones is UP or down (all are down at first)");
        Net x = new Net();
        int links = 0;
        for (int a = 0; a < Nets.ROUTERS; a++) {
            for (int b = a + 1; b < Nets.ROUTERS; b++) {
                Checks.same("link " + a + " " + b, x.link(b, a, true), true);
                links++;
                Checks.same("links up", x.count(4), links);
            }
        }
        Checks.same("all links", links, 28);
        for (int a = 0; a < Nets.ROUTERS; a++) {
            for (int b = a + 1; b < Nets.ROUTERS; b++) {
                Checks.same("link " + a + " " + b + " down", x.link(a, b, false), true);
                links--;
                Checks.same("links up", x.count(4), links);
            }
        }
    }

    private static void routersAreNotTold() {
        Checks.says("A link goes up or down (both routers are not told)");
        Net x = Nets.settledLine(3);
        x.ask(0, 1, 1);
        String routes = Look.route(x, 0, 2) + Look.route(x, 0, 1) + Look.route(x, 1, 0);
        String packets = Look.packets(x, 0);
        x.link(0, 1, false);
        Checks.same("routes", Look.route(x, 0, 2) + Look.route(x, 0, 1) + Look.route(x, 1, 0), routes);
        Checks.same("packets", Look.packets(x, 0), packets);
        x.link(0, 2, true);
        Checks.same("nothing is sent", Look.packets(x, 0), packets);
        Checks.same("sent by nobody", x.route(0, 2, 1), 1);
    }

    private static void noSuchRouter() {
        Checks.says("IndexOutOfBoundsException: there is no such router");
        Net x = Nets.busy();
        for (int w : Nets.NO_ROUTER) {
            for (int r = 0; r < Nets.ROUTERS; r++) {
                int there = r;
                Checks.noSuch("link(" + w + ", " + r + ")", x, () -> x.link(w, there, true));
                Checks.noSuch("link(" + r + ", " + w + ")", x, () -> x.link(there, w, true));
            }
            Checks.noSuch("link down (" + w + ", 1)", x, () -> x.link(w, 1, false));
            Checks.noSuch("link down (1, " + w + ")", x, () -> x.link(1, w, false));
            Checks.noSuch("both the same, and none", x, () -> x.link(w, w, true));
        }
        Checks.same("0 and 7 are there", x.link(0, 7, true), true);
        Checks.same("7 and 0 are there", x.link(7, 0, false), true);
    }

    private static void bothAreTheSame() {
        Checks.says("IllegalArgumentException: both are the same");
        Net x = Nets.busy();
        for (int r = 0; r < Nets.ROUTERS; r++) {
            int same = r;
            Checks.notAsSaid("link of " + r + " up", x, () -> x.link(same, same, true));
            Checks.notAsSaid("link of " + r + " down", x, () -> x.link(same, same, false));
        }
        Checks.same("neighbours by number", x.link(6, 7, true), true);
        Checks.same("neighbours by number", x.link(1, 0, false), true);
    }
}
