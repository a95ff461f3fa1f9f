public final class Promise13RouteTest {
    public static void main(String[] args) {
        whatARouteHas();
        aLineComesRight();
        wrongInputs();
        Checks.end();
    }

    private static void whatARouteHas() {
        HopRouters x = Nets.line(4);
        Nets.hear(x, 2, 3, 7, 5);
        Checks.same("metric", x.route(3, 7, 0), 5);
        Checks.same("next", x.route(3, 7, 1), 2);
        Checks.same("age", x.route(3, 7, 2), 0);
        Checks.same("changed", x.route(3, 7, 3), 1);
        Checks.same("silent", x.route(3, 7, 4), 0);
        x.tick(5, false);
        Checks.same("later", Nets.route(x, 3, 7), "5 2 5 0 0");
        Nets.hear(x, 2, 3, 7, 16);
        x.tick(2, false);
        Checks.same("gone", Nets.route(x, 3, 7), "16 2 2 0 18");
        for (int r = 0; r < Nets.ROUTERS; r++) {
            Checks.same("to itself", Nets.route(x, r, r), "0 -1 -1 -1 -1");
        }
        Checks.same("no route", Nets.route(x, 3, 6), Nets.NO_ROUTE);
        Checks.same("nor back", Nets.route(x, 7, 3), Nets.NO_ROUTE);
    }

    private static void aLineComesRight() {
        HopRouters x = Nets.settledLine(8);
        for (int a = 0; a < Nets.ROUTERS; a++) {
            for (int b = 0; b < Nets.ROUTERS; b++) {
                Checks.same("metric " + a + " " + b, x.route(a, b, 0), Math.abs(a - b));
                int next = a < b ? a + 1 : a > b ? a - 1 : -1;
                Checks.same("next " + a + " " + b, x.route(a, b, 1), next);
            }
        }
    }

    private static void wrongInputs() {
        HopRouters x = Nets.settledLine(3);
        int[] wrong = {-1, 8, Integer.MIN_VALUE, Integer.MAX_VALUE};
        for (int w : wrong) {
            Checks.noSuch("route(" + w + ", 0, 0)", x, () -> x.route(w, 0, 0));
            Checks.noSuch("route(0, " + w + ", 0)", x, () -> x.route(0, w, 0));
            Checks.noSuch("route of none to none", x, () -> x.route(w, w, 0));
        }
        int[] noWhat = {-1, 5, Integer.MIN_VALUE, Integer.MAX_VALUE};
        for (int w : noWhat) {
            Checks.noSuch("route(0, 1, " + w + ")", x, () -> x.route(0, 1, w));
            Checks.noSuch("route(0, 7, " + w + ")", x, () -> x.route(0, 7, w));
            Checks.noSuch("route(0, 0, " + w + ")", x, () -> x.route(0, 0, w));
        }
    }
}
