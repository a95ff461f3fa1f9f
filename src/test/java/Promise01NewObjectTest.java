public final class Promise01NewObjectTest {
    public static void main(String[] args) {
        Checks.same("NONE", HopRouters.NONE, -1);
        isEmpty(new HopRouters());
        objectsAreApart();
        firstTellingIsAtItsTime();
        Checks.end();
    }

    private static void isEmpty(HopRouters x) {
        for (int what = 0; what <= 5; what++) {
            Checks.same("count(" + what + ")", x.count(what), 0);
        }
        for (int a = 0; a < Nets.ROUTERS; a++) {
            for (int b = 0; b < Nets.ROUTERS; b++) {
                String due = a == b ? "0 -1 -1 -1 -1" : Nets.NO_ROUTE;
                Checks.same("route " + a + " " + b, Nets.route(x, a, b), due);
                if (a != b) {
                    Checks.same("link " + a + " " + b, Nets.isUp(x, a, b), false);
                    Checks.same("send " + a + " " + b, x.send(a, b), -1);
                }
            }
        }
        Checks.noSuch("packet 0", x, () -> x.packet(0, 0));
    }

    private static void objectsAreApart() {
        HopRouters busy = Nets.settledLine(3);
        busy.ask(0, 1, 5);
        isEmpty(new HopRouters());
        HopRouters other = Nets.line(2);
        Checks.same("time of another object", other.count(3), 0);
        Checks.same("time of the busy one", busy.count(3), 80);
    }

    private static void firstTellingIsAtItsTime() {
        HopRouters x = Nets.line(2);
        Checks.same("before any telling", x.tick(8, false), 0);
        Checks.same("router 1 tells at 9", x.tick(1, false), 1);
        Checks.same("router 0 tells at 10", x.tick(1, false), 2);
    }
}
