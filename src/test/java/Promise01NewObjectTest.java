public final class Promise01NewObjectTest {
    public static void main(String[] args) {
        allLinksDown();
        noRoutes();
        nothingInTheAir();
        timeIsZero();
        objectsAreApart();
        uses();
        Checks.end();
    }

    private static void allLinksDown() {
        Checks.says("All links down, no routes, nothing in the air.");
        Net x = new Net();
        Checks.same("links up", x.count(4), 0);
        for (int a = 0; a < Nets.ROUTERS; a++) {
            for (int b = 0; b < Nets.ROUTERS; b++) {
                if (a != b) {
                    Checks.same("link " + a + " " + b, Look.isUp(x, a, b), false);
                }
            }
        }
        Checks.notNow("ask", x, () -> x.ask(0, 7, 1));
        Checks.same("restart finds no neighbour", x.restart(4), 0);
    }

    private static void noRoutes() {
        Checks.says("All links down, no routes, nothing in the air.");
        Net x = new Net();
        for (int a = 0; a < Nets.ROUTERS; a++) {
            for (int b = 0; b < Nets.ROUTERS; b++) {
                String due = a == b ? Look.TO_ITSELF : Look.NO_ROUTE;
                Checks.same("route " + a + " " + b, Look.route(x, a, b), due);
                Checks.same("send " + a + " " + b, x.send(a, b), a == b ? 0 : -1);
                if (a != b) {
                    Checks.same("sees " + a + " " + b, x.sees(a, b), 0);
                }
            }
        }
    }

    private static void nothingInTheAir() {
        Checks.says("All links down, no routes, nothing in the air.");
        Net x = new Net();
        Checks.same("counts", Look.counts(x), "0 0 0 0 0 0");
        Checks.noSuch("packet(0, -1)", x, () -> x.packet(0, -1));
        Checks.same("no tick, nothing there", x.tick(0, true), 0);
    }

    private static void timeIsZero() {
        Checks.says("TIME is 0 at first and goes by TICKS.");
        Net x = Nets.line(2);
        Checks.same("time", x.count(3), 0);
        Checks.same("before any telling", x.tick(8, false), 0);
        Checks.same("time", x.count(3), 8);
        Checks.same("router 1 tells at 9", x.tick(1, false), 1);
        Checks.same("router 0 tells at 10", x.tick(1, false), 2);
        Checks.same("nobody tells at 11", x.tick(1, false), 2);
    }

    private static void objectsAreApart() {
        Checks.says("All links down, no routes, nothing in the air.");
        Net busy = Nets.busy();
        String before = Look.state(busy);
        Net other = new Net();
        Checks.same("counts of another object", Look.counts(other), "0 0 0 0 0 0");
        other.link(0, 1, true);
        other.restart(0);
        other.tick(30, true);
        Checks.same("the busy one", Look.state(busy), before);
    }

    private static void uses() {
        Checks.says("An object is used for at most 512 calls after it has been made");
        Net x = Nets.line(2);
        for (int i = 1; i <= 508; i++) {
            x.tick(1000, false);
        }
        Checks.same("the most time that a test can ask for", x.count(3), 508000);
        Checks.same("sent", x.count(2), 508000 / 10 * 2);
        Checks.same("lost, asked by the last call", x.count(1), 508000 / 10 * 2 - 200);
        Checks.same("calls left", x.callsLeft(), 0);
        Net y = Nets.line(2);
        for (int i = 1; i <= 510; i++) {
            Checks.same("tick " + i, y.tick(20, true), 0);
        }
        // 1 tells at 9, 0 at 10, and 1 what it has heard then at 11; then each every ten ticks.
        Checks.same("sent", y.count(2), 510 * 20 / 10 * 2 + 1);
        Net z = Nets.line(2);
        for (int i = 1; i <= 510; i++) {
            Checks.same("ask " + i, z.ask(0, 1, i % 255 + 1), Math.min(i, 200));
        }
        Checks.same("lost", z.count(1), 310);
    }
}
