public final class Promise06TickTest {
    public static void main(String[] args) {
        timeGoesBy();
        routersTellInTheirTurn();
        allRoutesAreToldInTheirTurn();
        whatIsToldToNextIsPoisoned();
        changesAreToldAtOnce();
        eachRouteIsToldAndGrowsOld();
        metricsAreToldUpTo16();
        routesGrowOldAndAreGone();
        routesThatAreGoneGo();
        silenceCountsDown();
        aFullAir();
        withAllEverythingComes();
        wrongInputs();
        Checks.end();
    }

    private static void timeGoesBy() {
        HopRouters x = new HopRouters();
        Checks.same("no tick", x.tick(0, false), 0);
        Checks.same("time 0", x.count(3), 0);
        x.tick(1, false);
        Checks.same("time 1", x.count(3), 1);
        Checks.same("most", x.tick(1000, true), 0);
        Checks.same("time 1001", x.count(3), 1001);
    }

    private static void routersTellInTheirTurn() {
        HopRouters x = Nets.line(8);
        StringBuilder told = new StringBuilder();
        for (int time = 1; time <= 20; time++) {
            int n = x.tick(1, false);
            for (int k = 0; k < n; k++) {
                told.append(time).append(' ').append(x.packet(0, -3)).append('>');
                told.append(x.packet(0, -2)).append(' ');
                x.lose(0);
            }
        }
        Checks.same("who tells whom and when", told.toString(),
                "3 7>6 4 6>5 4 6>7 5 5>4 5 5>6 6 4>3 6 4>5 7 3>2 7 3>4 8 2>1 8 2>3 "
                + "9 1>0 9 1>2 10 0>1 13 7>6 14 6>5 14 6>7 15 5>4 15 5>6 16 4>3 16 4>5 "
                + "17 3>2 17 3>4 18 2>1 18 2>3 19 1>0 19 1>2 20 0>1 ");
    }

    private static void allRoutesAreToldInTheirTurn() {
        HopRouters x = new HopRouters();
        x.link(3, 1, true);
        x.link(3, 5, true);
        Nets.hear(x, 1, 3, 0, 4);
        Nets.hear(x, 1, 3, 7, 2);
        Nets.hear(x, 5, 3, 2, 15);
        Nets.hear(x, 5, 3, 6, 3);
        Nets.hear(x, 5, 3, 6, 16);
        x.tick(6, false);
        while (x.count(0) > 0) {
            x.lose(0);
        }
        Checks.same("at 7", x.tick(1, false), 2);
        Checks.same("to 1", Nets.packet(x, 0),
                Nets.due(3, 1, 2, 2, 3, 1, 2, 0, 16, 2, 2, 16, 2, 6, 16, 2, 7, 16));
        Checks.same("to 5", Nets.packet(x, 1),
                Nets.due(3, 5, 2, 2, 3, 1, 2, 0, 5, 2, 2, 16, 2, 6, 16, 2, 7, 3));
    }

    private static void whatIsToldToNextIsPoisoned() {
        HopRouters x = Nets.line(3);
        Nets.hear(x, 0, 1, 0, 1);
        Nets.hear(x, 2, 1, 2, 1);
        Checks.same("both are told", x.tick(1, false), 2);
        Checks.same("to 0", Nets.packet(x, 0), Nets.due(1, 0, 2, 2, 0, 16, 2, 2, 2));
        Checks.same("to 2", Nets.packet(x, 1), Nets.due(1, 2, 2, 2, 0, 2, 2, 2, 16));
    }

    private static void changesAreToldAtOnce() {
        HopRouters x = Nets.line(3);
        Nets.hear(x, 0, 1, 5, 4);
        Checks.same("nothing before a tick", x.count(0), 0);
        Checks.same("changed", Nets.route(x, 1, 5), "4 0 0 1 0");
        Checks.same("told", x.tick(1, false), 2);
        Checks.same("to 2, without itself", Nets.packet(x, 1), Nets.due(1, 2, 2, 2, 5, 5));
        Checks.same("no more changed", Nets.route(x, 1, 5), "4 0 1 0 0");
        Checks.same("told once", x.tick(1, false), 2);
        HopRouters y = Nets.line(3);
        y.tick(8, false);
        while (y.count(0) > 0) {
            y.lose(0);
        }
        Nets.hear(y, 0, 1, 5, 4);
        Checks.same("a change in its turn", y.tick(1, false), 2);
        Checks.same("is told with itself", Nets.packet(y, 1), Nets.due(1, 2, 2, 2, 1, 1, 2, 5, 5));
        Checks.same("is no change then", y.route(1, 5, 3), 0);
        HopRouters alone = Nets.line(2);
        Nets.hear(alone, 0, 1, 5, 4);
        alone.link(0, 1, false);
        Checks.same("told to nobody", alone.tick(1, false), 0);
        Checks.same("no change either", alone.route(1, 5, 3), 0);
    }

    private static void eachRouteIsToldAndGrowsOld() {
        for (int router = 0; router < Nets.ROUTERS; router++) {
            int other = (router + 1) % Nets.ROUTERS;
            for (int d = 0; d < Nets.ROUTERS; d++) {
                if (d == router) {
                    continue;
                }
                HopRouters x = new HopRouters();
                x.link(router, other, true);
                Nets.hear(x, other, router, d, 2);
                Checks.same("told", x.tick(1, false), 1);
                Checks.same("the change", Nets.packet(x, 0), Nets.due(router, other, 2, 2, d, 16));
                Checks.same("the route", Nets.route(x, router, d), "2 " + other + " 1 0 0");
                x.lose(0);
                Nets.hear(x, other, router, d, 16);
                Checks.same("told again", x.tick(1, false), 1);
                Checks.same("silent", Nets.route(x, router, d), "16 " + other + " 1 0 19");
            }
        }
    }

    private static void metricsAreToldUpTo16() {
        HopRouters x = Nets.line(3);
        for (int metric = 15; metric >= 14; metric--) {
            Nets.hear(x, 0, 1, 7, metric);
            int n = x.tick(1, false);
            Checks.same("one more than " + metric, x.packet(n - 1, 23), metric + 1);
        }
        Nets.hear(x, 0, 1, 7, 16);
        int n = x.tick(1, false);
        Checks.same("16 stays", x.packet(n - 1, 23), 16);
    }

    private static void routesGrowOldAndAreGone() {
        HopRouters x = Nets.line(2);
        Nets.hear(x, 0, 1, 7, 3);
        x.link(0, 1, false);
        x.tick(59, false);
        Checks.same("age 59", Nets.route(x, 1, 7), "3 0 59 0 0");
        x.link(0, 1, true);
        int before = x.count(0);
        x.tick(1, false);
        Checks.same("age 60: gone", Nets.route(x, 1, 7), "16 0 0 0 20");
        String told = "";
        for (int k = before; k < x.count(0); k++) {
            told += Nets.packet(x, k) + "\n";
        }
        Checks.same("and told at once", told,
                Nets.due(0, 1, 2, 2, 0, 1) + "\n" + Nets.due(1, 0, 2, 2, 7, 16) + "\n");
    }

    private static void routesThatAreGoneGo() {
        HopRouters x = Nets.line(2);
        Nets.hear(x, 0, 1, 7, 3);
        x.link(0, 1, false);
        x.sees(1, 0);
        x.tick(49, false);
        Checks.same("age 49", Nets.route(x, 1, 7), "16 0 49 0 0");
        x.tick(1, false);
        Checks.same("age 50: it goes", Nets.route(x, 1, 7), Nets.NO_ROUTE);
        x.tick(100, false);
        Checks.same("and stays away", Nets.route(x, 1, 7), Nets.NO_ROUTE);
        HopRouters y = Nets.line(2);
        Nets.hear(y, 0, 1, 7, 3);
        y.link(0, 1, false);
        y.tick(109, false);
        Checks.same("60 and 49 more", Nets.route(y, 1, 7), "16 0 49 0 0");
        y.tick(1, false);
        Checks.same("60 and 50 more", Nets.route(y, 1, 7), Nets.NO_ROUTE);
    }

    private static void silenceCountsDown() {
        HopRouters x = Nets.line(2);
        Nets.hear(x, 0, 1, 7, 3);
        x.link(0, 1, false);
        x.sees(1, 0);
        for (int i = 1; i <= 25; i++) {
            x.tick(1, false);
            Checks.same("silent behind " + i, x.route(1, 7, 4), Math.max(20 - i, 0));
        }
    }

    private static void aFullAir() {
        HopRouters x = Nets.line(2);
        Checks.same("200 and no more", x.tick(1000, false), 200);
        Checks.same("sent", x.count(2), 200);
        Checks.same("none lost yet", x.count(1), 0);
        Checks.same("still 200", x.tick(10, false), 200);
        Checks.same("sent, all in all", x.count(2), 202);
        Checks.same("lost", x.count(1), 2);
        Checks.same("all came", x.tick(1, true), 0);
    }

    private static void withAllEverythingComes() {
        HopRouters x = Nets.line(3);
        x.restart(0);
        Checks.same("no tick: nothing comes", x.tick(0, true), 1);
        Checks.same("a request, and what it brings", x.tick(1, true), 0);
        Checks.same("0 has been told", x.route(0, 1, 0), 1);
        Checks.same("sent", x.count(2), 2);
        Checks.same("behind each tick", x.tick(1, true), 0);
        Checks.same("what came is told a tick later", x.count(2), 3);
        HopRouters down = Nets.line(2);
        down.ask(0, 1, 1);
        down.link(0, 1, false);
        Checks.same("it came, and was lost", down.tick(1, true), 0);
        Checks.same("lost", down.count(1), 1);
        oldestFirst();
        HopRouters full = Nets.fullAir();
        Checks.same("200 requests and their responses", full.tick(1, true), 0);
        Checks.same("sent", full.count(2), 400);
    }

    private static void oldestFirst() {
        HopRouters x = Nets.line(3);
        Nets.responseInAir(x, 0, 1, 7, 5);
        Nets.responseInAir(x, 2, 1, 7, 5);
        x.tick(1, true);
        Checks.same("the first one holds", x.route(1, 7, 1), 0);
        HopRouters y = Nets.line(3);
        Nets.responseInAir(y, 2, 1, 7, 5);
        Nets.responseInAir(y, 0, 1, 7, 5);
        y.tick(1, true);
        Checks.same("the first one holds", y.route(1, 7, 1), 2);
    }

    private static void wrongInputs() {
        HopRouters x = Nets.settledLine(3);
        int[] wrong = {-1, 1001, Integer.MIN_VALUE, Integer.MAX_VALUE};
        for (int w : wrong) {
            Checks.notAsSaid("tick(" + w + ", false)", x, () -> x.tick(w, false));
            Checks.notAsSaid("tick(" + w + ", true)", x, () -> x.tick(w, true));
        }
    }
}
