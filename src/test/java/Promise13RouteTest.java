public final class Promise13RouteTest {
    public static void main(String[] args) {
        whatARouteHas();
        withoutARoute();
        toItself();
        aLineComesRight();
        changesNothing();
        noSuchRouter();
        noSuchWhat();
        Checks.end();
    }

    private static void whatARouteHas() {
        Checks.says("Of a router's route to another one: what = 0 its metric (..), 1 NEXT, 2 the age, "
                + "3 whether it is CHANGED (1), 4 SILENT");
        Net x = Nets.line(4);
        Nets.hear(x, 2, 3, 7, 5);
        Checks.same("metric", x.route(3, 7, 0), 5);
        Checks.same("next", x.route(3, 7, 1), 2);
        Checks.same("age", x.route(3, 7, 2), 0);
        Checks.same("changed", x.route(3, 7, 3), 1);
        Checks.same("silent", x.route(3, 7, 4), 0);
        x.tick(5, false);
        Checks.same("later", Look.route(x, 3, 7), "5 2 5 0 0");
        Nets.hear(x, 2, 3, 7, 16);
        Checks.same("gone", Look.route(x, 3, 7), "16 2 0 1 20");
        x.tick(2, false);
        Checks.same("gone for a while", Look.route(x, 3, 7), "16 2 2 0 18");
        Checks.same("not back", Look.route(x, 7, 3), Look.NO_ROUTE);
        Net ends = new Net();
        ends.link(0, 7, true);
        Nets.hear(ends, 0, 7, 0, 1);
        Nets.hear(ends, 7, 0, 7, 15);
        Checks.same("7 to 0", Look.route(ends, 7, 0), "1 0 0 1 0");
        Checks.same("0 to 7", Look.route(ends, 0, 7), "15 7 0 1 0");
    }

    private static void withoutARoute() {
        Checks.says("(NONE without a route, 0 to itself), .. (1 to 4: NONE without one, and to itself)");
        Net x = Nets.settledLine(2);
        for (int what = 0; what <= 4; what++) {
            Checks.same("never one", x.route(0, 7, what), HopRouters.NONE);
        }
        x.link(0, 1, false);
        x.sees(0, 1);
        x.tick(49, false);
        Checks.same("gone, but one", Look.route(x, 0, 1), "16 1 49 0 0");
        x.tick(1, false);
        Checks.same("none any more", Look.route(x, 0, 1), Look.NO_ROUTE);
    }

    private static void toItself() {
        Checks.says("(To itself each has metric 0.)");
        Net x = Nets.settledLine(8);
        for (int r = 0; r < Nets.ROUTERS; r++) {
            Checks.same("in a new object", Look.route(new Net(), r, r), Look.TO_ITSELF);
            Checks.same("in a net", Look.route(x, r, r), Look.TO_ITSELF);
            x.restart(r);
            Checks.same("behind a restart", Look.route(x, r, r), Look.TO_ITSELF);
        }
        x.tick(200, false);
        Checks.same("it does not grow old", Look.route(x, 3, 3), Look.TO_ITSELF);
    }

    private static void aLineComesRight() {
        Checks.says("so that all tables come right when the net has been quiet for long enough");
        Net x = Nets.settledLine(8);
        for (int a = 0; a < Nets.ROUTERS; a++) {
            for (int b = 0; b < Nets.ROUTERS; b++) {
                Checks.same("metric " + a + " " + b, x.route(a, b, 0), Math.abs(a - b));
                int next = a < b ? a + 1 : a > b ? a - 1 : -1;
                Checks.same("next " + a + " " + b, x.route(a, b, 1), next);
            }
        }
    }

    private static void changesNothing() {
        Checks.says("Of a router's route to another one");
        Net x = Nets.busy();
        String before = Look.state(x);
        for (int i = 0; i < 320; i++) {
            x.route(i / 40, i / 5 % 8, i % 5);
        }
        Checks.same("state", Look.state(x), before);
    }

    private static void noSuchRouter() {
        Checks.says("IndexOutOfBoundsException: there is no such router");
        Net x = Nets.busy();
        for (int w : Nets.NO_ROUTER) {
            for (int r = 0; r < Nets.ROUTERS; r++) {
                int there = r;
                Checks.noSuch("route(" + w + ", " + r + ", 0)", x, () -> x.route(w, there, 0));
                Checks.noSuch("route(" + r + ", " + w + ", 4)", x, () -> x.route(there, w, 4));
            }
            Checks.noSuch("none to itself", x, () -> x.route(w, w, 0));
        }
    }

    private static void noSuchWhat() {
        Checks.says("IndexOutOfBoundsException: there is no such router, packet, byte, what.");
        Net x = Nets.busy();
        int[] wrong = {-1, 5, -2, 6, Integer.MIN_VALUE, Integer.MAX_VALUE};
        for (int w : wrong) {
            Checks.noSuch("of a route, " + w, x, () -> x.route(0, 1, w));
            Checks.noSuch("without a route, " + w, x, () -> x.route(5, 6, w));
            Checks.noSuch("to itself, " + w, x, () -> x.route(0, 0, w));
            Checks.noSuch("of no router, " + w, x, () -> x.route(8, 0, w));
        }
        Net y = Nets.settledLine(2);
        Checks.same("0", y.route(0, 1, 0), 1);
        Checks.same("4", y.route(0, 1, 4), 0);
    }
}
