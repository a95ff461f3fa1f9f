public final class Promise02LinkTest {
    public static void main(String[] args) {
        answersWhetherItWasAnotherWay();
        goesBothWays();
        everyPair();
        routersAreNotTold();
        wrongInputs();
        Checks.end();
    }

    private static void answersWhetherItWasAnotherWay() {
        HopRouters x = new HopRouters();
        Checks.same("down at first", x.link(0, 7, false), false);
        Checks.same("up", x.link(0, 7, true), true);
        Checks.same("up again", x.link(0, 7, true), false);
        Checks.same("down", x.link(0, 7, false), true);
        Checks.same("down again", x.link(0, 7, false), false);
        Checks.same("links up", x.count(4), 0);
    }

    private static void goesBothWays() {
        HopRouters x = new HopRouters();
        x.link(2, 5, true);
        Checks.same("the other way round", x.link(5, 2, true), false);
        Checks.same("one link", x.count(4), 1);
        Checks.same("ask this way", x.ask(2, 5, 1), 1);
        Checks.same("ask that way", x.ask(5, 2, 1), 2);
        Checks.same("down from the other end", x.link(5, 2, false), true);
        Checks.same("down from both", x.link(2, 5, false), false);
    }

    private static void everyPair() {
        HopRouters x = new HopRouters();
        int links = 0;
        for (int a = 0; a < Nets.ROUTERS; a++) {
            for (int b = a + 1; b < Nets.ROUTERS; b++) {
                Checks.same("link " + a + " " + b, x.link(a, b, true), true);
                links++;
                Checks.same("links up", x.count(4), links);
            }
        }
        Checks.same("all links", x.count(4), 28);
    }

    private static void routersAreNotTold() {
        HopRouters x = Nets.settledLine(3);
        String before = Nets.route(x, 0, 2);
        x.link(0, 1, false);
        Checks.same("the route stays", Nets.route(x, 0, 2), before);
        Checks.same("nothing is sent", x.count(0), 0);
    }

    private static void wrongInputs() {
        HopRouters x = Nets.settledLine(3);
        int[] wrong = {-1, 8, Integer.MIN_VALUE, Integer.MAX_VALUE};
        for (int w : wrong) {
            Checks.noSuch("link(" + w + ", 0)", x, () -> x.link(w, 0, true));
            Checks.noSuch("link(0, " + w + ")", x, () -> x.link(0, w, true));
            Checks.noSuch("link, no such one twice", x, () -> x.link(w, w, false));
        }
        for (int r = 0; r < Nets.ROUTERS; r++) {
            int same = r;
            Checks.notAsSaid("link of one router", x, () -> x.link(same, same, true));
            Checks.notAsSaid("link of one router", x, () -> x.link(same, same, false));
        }
    }
}
